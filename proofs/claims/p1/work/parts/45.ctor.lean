set_option maxHeartbeats 8000000 in
set_option maxRecDepth 100000 in
theorem c_X1_init (l : Launch) (G : q_G) (L : List Nat) (T : Nat → Nat) (σ : q_S) (a0 : Nat) (hp0 : q_Po L T σ a0 5 [] []) (a1 : Nat) (ha1 : T a1 = 1) : Met l yX1_init (Cond.code yX1_init cX1_init 2 none :: wsL_law) (q_Rc 3 1 6) (q_PreC G L T σ [.ref a0, .ref a1]) (q_QcC G L T σ a0 5) 1 6 (q_N G) := by
  refine q_ofC (by decide) (Nat.le_of_ble_eq_true rfl) ?_
  intro p e s m args below meth c hE hin hB hA hr hlocks hW ls hl
  have hE : q_E G p s m args c cX1_init 2 RX1 := hE
  have hx := hE.1.1
  have hb := hE.1.2.1
  have hW0 := hW
  have hW00 := hW
  have hg := q_Gw.rf (L := L) (T := T) (σ := σ) a0
  have hl : lv_has ls 2 [(0, .ref a0), (1, .ref a1)] := hl
  refine lv_aload_n hx hb dX1_init_0 rfl (lv_at hl 0 rfl) ?_
  refine W.objInit hx hb hE.1.2.2.2.1 (hE.w wl_94) (hE.w wl_10) (hE.w wl_11) rfl (hl.1.trans hE.1.2.2.1.symm) rfl dX1_init_1 (Nat.le_of_ble_eq_true rfl) (Nat.le_of_ble_eq_true rfl) ?_
  refine W.eq (g2 := F0 m 4 ls []) rfl ?_
  refine lv_aload_n hx hb dX1_init_4 rfl (lv_at hl 0 rfl) ?_
  refine lv_aload_n hx hb dX1_init_5 rfl (lv_at hl 1 rfl) ?_
  refine q_putR hE hW hp0 rfl q_k1 tyX1 tyX1_ok 0 (by decide) rfl wl_95 rfl rfl rfl (by decide) rfl dX1_init_6 (fun ks1 H locs hW kg2 hp0 => ?_)
  have hg := q_Gw.tr hg kg2 (Or.inl rfl) hp0.here.2 (fun x hx => hW0.1.inL x hx)
  have ha1 := q_Gw.tag kg2 ha1 (by decide)
  have hW0 := hW
  have hp0 := hp0.know (List.mem_of_getElem? (i := 0) rfl) rfl (k := 0) rfl (q_1 ha1 (by decide)) (q_2 ha1 (by decide))
  refine lv_aload_n hx hb dX1_init_9 rfl (lv_at hl 0 rfl) ?_
  refine lv_bipush (v := 6) hx hb dX1_init_10 (by decide) ?_
  refine q_newI (ty := .int) (atype := .int) hE hB hW 6 rfl rfl rfl rfl wl_45 (by decide) (by decide) (by decide) (by decide) (Nat.le_of_ble_eq_true rfl) (Nat.le_of_ble_eq_true rfl) dX1_init_12 (fun kb3 kL4 kT5 ks6 H hW kg7 nkb3 hy9 hkb3 => ?_)
  refine W.widen (k := 1) (n := 6) (Nat.le_of_ble_eq_true rfl) (Nat.le_of_ble_eq_true rfl) ?_
  have fkb3 := (fun q9 => nkb3 (hg.1 _ q9))
  have ukb3 := hp0.nL nkb3
  have hg := q_Gw.tr hg kg7 (Or.inr fkb3) hy9 (fun x hx => hW0.1.inL x hx)
  have hp0 := hp0.mv kg7 ukb3
  have ha1 := q_Gw.tag kg7 ha1 (by decide)
  have hW0 := hW
  refine q_putF hE hW hp0 rfl q_k1 tyX1 tyX1_ok 5 (by decide) rfl wl_96 rfl hin rfl rfl rfl (by decide) rfl dX1_init_14 (fun ks8 H locs hW kg9 hp0 => ?_)
  have hg := q_Gw.tr hg kg9 (Or.inl rfl) hp0.here.2 (fun x hx => hW0.1.inL x hx)
  have ha1 := q_Gw.tag kg9 ha1 (by decide)
  have hkb3 := q_Gw.tag kg9 hkb3 (by decide)
  have hW0 := hW
  have hp0 := hp0.know (List.mem_of_getElem? (i := 0) rfl) rfl (k := 5) rfl (q_1 hkb3 (by decide)) (q_2 hkb3 (by decide))
  obtain ⟨hW, hz8, hz9⟩ := hp0.tell hW rfl rfl (by decide)
  exact q_retC hE hr hlocks hW (q_Gw.tr hg hz8 (Or.inl rfl) hp0.here.2 (fun x hx => hW0.1.inL x hx)) hz9 dX1_init_17
set_option maxHeartbeats 8000000 in
set_option maxRecDepth 100000 in
theorem c_X8_init (l : Launch) (G : q_G) (L : List Nat) (T : Nat → Nat) (σ : q_S) (a0 : Nat) (hp0 : q_Po L T σ a0 13 [] []) : Met l yX8_init (Cond.code yX8_init cX8_init 1 none :: wsL_law) (q_Rc 3 1 200) (q_PreC G L T σ [.ref a0]) (q_QcC G L T σ a0 13) 1 200 (q_N G) := by
  refine q_ofC (by decide) (Nat.le_of_ble_eq_true rfl) ?_
  intro p e s m args below meth c hE hin hB hA hr hlocks hW ls hl
  have hE : q_E G p s m args c cX8_init 1 RX8 := hE
  have hx := hE.1.1
  have hb := hE.1.2.1
  have hW0 := hW
  have hW00 := hW
  have hg := q_Gw.rf (L := L) (T := T) (σ := σ) a0
  have hl : lv_has ls 1 [(0, .ref a0)] := hl
  refine lv_aload_n hx hb dX8_init_0 rfl (lv_at hl 0 rfl) ?_
  refine W.objInit hx hb hE.1.2.2.2.1 (hE.w wl_75) (hE.w wl_10) (hE.w wl_11) rfl (hl.1.trans hE.1.2.2.1.symm) rfl dX8_init_1 (Nat.le_of_ble_eq_true rfl) (Nat.le_of_ble_eq_true rfl) ?_
  refine W.eq (g2 := F0 m 4 ls []) rfl ?_
  refine lv_aload_n hx hb dX8_init_4 rfl (lv_at hl 0 rfl) ?_
  refine lv_sipush (v := 200) hx hb dX8_init_5 (by decide) ?_
  refine q_newI (ty := .char) (atype := .char) hE hB hW 14 rfl rfl rfl rfl wl_76 (by decide) (by decide) (by decide) (by decide) (Nat.le_of_ble_eq_true rfl) (Nat.le_of_ble_eq_true rfl) dX8_init_8 (fun kb1 kL2 kT3 ks4 H hW kg5 nkb1 hy9 hkb1 => ?_)
  refine W.widen (k := 1) (n := 200) (Nat.le_of_ble_eq_true rfl) (Nat.le_of_ble_eq_true rfl) ?_
  have fkb1 := (fun q9 => nkb1 (hg.1 _ q9))
  have ukb1 := hp0.nL nkb1
  have hg := q_Gw.tr hg kg5 (Or.inr fkb1) hy9 (fun x hx => hW0.1.inL x hx)
  have hp0 := hp0.mv kg5 ukb1
  have hW0 := hW
  refine q_putF hE hW hp0 rfl q_k8 tyX8 tyX8_ok 0 (by decide) rfl wl_77 rfl hin rfl rfl rfl (by decide) rfl dX8_init_10 (fun ks6 H locs hW kg7 hp0 => ?_)
  have hg := q_Gw.tr hg kg7 (Or.inl rfl) hp0.here.2 (fun x hx => hW0.1.inL x hx)
  have hkb1 := q_Gw.tag kg7 hkb1 (by decide)
  have hW0 := hW
  have hp0 := hp0.know (List.mem_of_getElem? (i := 0) rfl) rfl (k := 0) rfl (q_1 hkb1 (by decide)) (q_2 hkb1 (by decide))
  obtain ⟨hW, hz8, hz9⟩ := hp0.tell hW rfl rfl (by decide)
  exact q_retC hE hr hlocks hW (q_Gw.tr hg hz8 (Or.inl rfl) hp0.here.2 (fun x hx => hW0.1.inL x hx)) hz9 dX8_init_13
set_option maxHeartbeats 8000000 in
set_option maxRecDepth 100000 in
theorem c_X5_init (l : Launch) (G : q_G) (L : List Nat) (T : Nat → Nat) (σ : q_S) (a0 : Nat) (hp0 : q_Po L T σ a0 23 [] []) : Met l yX5_init (Cond.code yX5_init cX5_init 1 none :: wsL_law) (q_Rc 3 2 32) (q_PreC G L T σ [.ref a0]) (q_QcC G L T σ a0 23) 2 32 (q_N G) := by
  refine q_ofC (by decide) (Nat.le_of_ble_eq_true rfl) ?_
  intro p e s m args below meth c hE hin hB hA hr hlocks hW ls hl
  have hE : q_E G p s m args c cX5_init 1 RX5 := hE
  have hx := hE.1.1
  have hb := hE.1.2.1
  have hW0 := hW
  have hW00 := hW
  have hg := q_Gw.rf (L := L) (T := T) (σ := σ) a0
  have hl : lv_has ls 1 [(0, .ref a0)] := hl
  refine lv_aload_n hx hb dX5_init_0 rfl (lv_at hl 0 rfl) ?_
  refine W.objInit hx hb hE.1.2.2.2.1 (hE.w wl_122) (hE.w wl_10) (hE.w wl_11) rfl (hl.1.trans hE.1.2.2.1.symm) rfl dX5_init_1 (Nat.le_of_ble_eq_true rfl) (Nat.le_of_ble_eq_true rfl) ?_
  refine W.eq (g2 := F0 m 4 ls []) rfl ?_
  refine lv_aload_n hx hb dX5_init_4 rfl (lv_at hl 0 rfl) ?_
  refine lv_bipush (v := 16) hx hb dX5_init_5 (by decide) ?_
  refine q_newI (ty := .int) (atype := .int) hE hB hW 24 rfl rfl rfl rfl wl_45 (by decide) (by decide) (by decide) (by decide) (Nat.le_of_ble_eq_true rfl) (Nat.le_of_ble_eq_true rfl) dX5_init_7 (fun kb1 kL2 kT3 ks4 H hW kg5 nkb1 hy9 hkb1 => ?_)
  refine W.widen (k := 1) (n := 16) (Nat.le_of_ble_eq_true rfl) (Nat.le_of_ble_eq_true rfl) ?_
  have fkb1 := (fun q9 => nkb1 (hg.1 _ q9))
  have ukb1 := hp0.nL nkb1
  have hg := q_Gw.tr hg kg5 (Or.inr fkb1) hy9 (fun x hx => hW0.1.inL x hx)
  have hp0 := hp0.mv kg5 ukb1
  have hW0 := hW
  refine q_putF hE hW hp0 rfl q_k5 tyX5 tyX5_ok 3 (by decide) rfl wl_123 rfl hin rfl rfl rfl (by decide) rfl dX5_init_9 (fun ks6 H locs hW kg7 hp0 => ?_)
  have hg := q_Gw.tr hg kg7 (Or.inl rfl) hp0.here.2 (fun x hx => hW0.1.inL x hx)
  have hkb1 := q_Gw.tag kg7 hkb1 (by decide)
  have hW0 := hW
  have hp0 := hp0.know (List.mem_of_getElem? (i := 0) rfl) rfl (k := 3) rfl (q_1 hkb1 (by decide)) (q_2 hkb1 (by decide))
  refine lv_aload_n hx hb dX5_init_12 rfl (lv_at hl 0 rfl) ?_
  refine lv_bipush (v := 16) hx hb dX5_init_13 (by decide) ?_
  refine q_newI (ty := .int) (atype := .int) hE hB hW 25 rfl rfl rfl rfl wl_45 (by decide) (by decide) (by decide) (by decide) (Nat.le_of_ble_eq_true rfl) (Nat.le_of_ble_eq_true rfl) dX5_init_15 (fun kb8 kL9 kT10 ks11 H hW kg12 nkb8 hy9 hkb8 => ?_)
  refine W.widen (k := 2) (n := 32) (Nat.le_of_ble_eq_true rfl) (Nat.le_of_ble_eq_true rfl) ?_
  have fkb8 := (fun q9 => nkb8 (hg.1 _ q9))
  have ukb8 := hp0.nL nkb8
  have hg := q_Gw.tr hg kg12 (Or.inr fkb8) hy9 (fun x hx => hW0.1.inL x hx)
  have hp0 := hp0.mv kg12 ukb8
  have hkb1 := q_Gw.tag kg12 hkb1 (by decide)
  have hW0 := hW
  refine q_putF hE hW hp0 rfl q_k5 tyX5 tyX5_ok 4 (by decide) rfl wl_124 rfl hin rfl rfl rfl (by decide) rfl dX5_init_17 (fun ks13 H locs hW kg14 hp0 => ?_)
  have hg := q_Gw.tr hg kg14 (Or.inl rfl) hp0.here.2 (fun x hx => hW0.1.inL x hx)
  have hkb1 := q_Gw.tag kg14 hkb1 (by decide)
  have hkb8 := q_Gw.tag kg14 hkb8 (by decide)
  have hW0 := hW
  have hp0 := hp0.know (List.mem_of_getElem? (i := 0) rfl) rfl (k := 4) rfl (q_1 hkb8 (by decide)) (q_2 hkb8 (by decide))
  obtain ⟨hW, hz8, hz9⟩ := hp0.tell hW rfl rfl (by decide)
  exact q_retC hE hr hlocks hW (q_Gw.tr hg hz8 (Or.inl rfl) hp0.here.2 (fun x hx => hW0.1.inL x hx)) hz9 dX5_init_20
set_option maxHeartbeats 8000000 in
set_option maxRecDepth 100000 in
theorem c_X7_init (l : Launch) (G : q_G) (L : List Nat) (T : Nat → Nat) (σ : q_S) (a0 : Nat) (hp0 : q_Po L T σ a0 15 [] []) (a1 : Nat) (ha1 : T a1 = 13) (a2 : Nat) (ha2 : T a2 = 7) (a3 : Nat) (ha3 : T a3 = 27) : Met l yX7_init (Cond.code yX7_init cX7_init 4 none :: wsL_law) (q_Rc 3 0 0) (q_PreC G L T σ [.ref a0, .ref a1, .ref a2, .ref a3]) (q_QcC G L T σ a0 15) 0 0 (q_N G) := by
  refine q_ofC (by decide) (Nat.le_of_ble_eq_true rfl) ?_
  intro p e s m args below meth c hE hin hB hA hr hlocks hW ls hl
  have hE : q_E G p s m args c cX7_init 4 RX7 := hE
  have hx := hE.1.1
  have hb := hE.1.2.1
  have hW0 := hW
  have hW00 := hW
  have hg := q_Gw.rf (L := L) (T := T) (σ := σ) a0
  have hl : lv_has ls 4 [(0, .ref a0), (1, .ref a1), (2, .ref a2), (3, .ref a3)] := hl
  refine lv_aload_n hx hb dX7_init_0 rfl (lv_at hl 0 rfl) ?_
  refine W.objInit hx hb hE.1.2.2.2.1 (hE.w wl_104) (hE.w wl_10) (hE.w wl_11) rfl (hl.1.trans hE.1.2.2.1.symm) rfl dX7_init_1 (Nat.le_of_ble_eq_true rfl) (Nat.le_of_ble_eq_true rfl) ?_
  refine W.eq (g2 := F0 m 4 ls []) rfl ?_
  refine lv_aload_n hx hb dX7_init_4 rfl (lv_at hl 0 rfl) ?_
  refine lv_aload_n hx hb dX7_init_5 rfl (lv_at hl 1 rfl) ?_
  refine q_putF hE hW hp0 rfl q_k7 tyX7 tyX7_ok 0 (by decide) rfl wl_105 rfl hin rfl rfl rfl (by decide) rfl dX7_init_6 (fun ks1 H locs hW kg2 hp0 => ?_)
  have hg := q_Gw.tr hg kg2 (Or.inl rfl) hp0.here.2 (fun x hx => hW0.1.inL x hx)
  have ha1 := q_Gw.tag kg2 ha1 (by decide)
  have ha2 := q_Gw.tag kg2 ha2 (by decide)
  have ha3 := q_Gw.tag kg2 ha3 (by decide)
  have hW0 := hW
  have hp0 := hp0.know (List.mem_of_getElem? (i := 0) rfl) rfl (k := 0) rfl (q_1 ha1 (by decide)) (q_2 ha1 (by decide))
  refine lv_aload_n hx hb dX7_init_9 rfl (lv_at hl 0 rfl) ?_
  refine lv_aload_n hx hb dX7_init_10 rfl (lv_at hl 2 rfl) ?_
  refine q_putF hE hW hp0 rfl q_k7 tyX7 tyX7_ok 1 (by decide) rfl wl_106 rfl hin rfl rfl rfl (by decide) rfl dX7_init_11 (fun ks3 H locs hW kg4 hp0 => ?_)
  have hg := q_Gw.tr hg kg4 (Or.inl rfl) hp0.here.2 (fun x hx => hW0.1.inL x hx)
  have ha1 := q_Gw.tag kg4 ha1 (by decide)
  have ha2 := q_Gw.tag kg4 ha2 (by decide)
  have ha3 := q_Gw.tag kg4 ha3 (by decide)
  have hW0 := hW
  have hp0 := hp0.know (List.mem_of_getElem? (i := 0) rfl) rfl (k := 1) rfl (q_1 ha2 (by decide)) (q_2 ha2 (by decide))
  refine lv_aload_n hx hb dX7_init_14 rfl (lv_at hl 0 rfl) ?_
  refine lv_aload_n hx hb dX7_init_15 rfl (lv_at hl 3 rfl) ?_
  refine q_putF hE hW hp0 rfl q_k7 tyX7 tyX7_ok 2 (by decide) rfl wl_107 rfl hin rfl rfl rfl (by decide) rfl dX7_init_16 (fun ks5 H locs hW kg6 hp0 => ?_)
  have hg := q_Gw.tr hg kg6 (Or.inl rfl) hp0.here.2 (fun x hx => hW0.1.inL x hx)
  have ha1 := q_Gw.tag kg6 ha1 (by decide)
  have ha2 := q_Gw.tag kg6 ha2 (by decide)
  have ha3 := q_Gw.tag kg6 ha3 (by decide)
  have hW0 := hW
  have hp0 := hp0.know (List.mem_of_getElem? (i := 0) rfl) rfl (k := 2) rfl (q_1 ha3 (by decide)) (q_2 ha3 (by decide))
  obtain ⟨hW, hz8, hz9⟩ := hp0.tell hW rfl rfl (by decide)
  exact q_retC hE hr hlocks hW (q_Gw.tr hg hz8 (Or.inl rfl) hp0.here.2 (fun x hx => hW0.1.inL x hx)) hz9 dX7_init_19
set_option maxHeartbeats 8000000 in
set_option maxRecDepth 100000 in
theorem c_X6_init (l : Launch) (G : q_G) (L : List Nat) (T : Nat → Nat) (σ : q_S) (a0 : Nat) (hp0 : q_Po L T σ a0 16 [] []) (a1 : Nat) (ha1 : T a1 = 7) : Met l yX6_init (Cond.code yX6_init cX6_init 2 none :: wsL_law) (q_Rc 3 8 42) (q_PreC G L T σ [.ref a0, .ref a1]) (q_QcC G L T σ a0 16) 8 42 (q_N G) := by
  refine q_ofC (by decide) (Nat.le_of_ble_eq_true rfl) ?_
  intro p e s m args below meth c hE hin hB hA hr hlocks hW ls hl
  have hE : q_E G p s m args c cX6_init 2 RX6 := hE
  have hx := hE.1.1
  have hb := hE.1.2.1
  have hW0 := hW
  have hW00 := hW
  have hg := q_Gw.rf (L := L) (T := T) (σ := σ) a0
  have hl : lv_has ls 2 [(0, .ref a0), (1, .ref a1)] := hl
  refine lv_aload_n hx hb dX6_init_0 rfl (lv_at hl 0 rfl) ?_
  refine W.objInit hx hb hE.1.2.2.2.1 (hE.w wl_111) (hE.w wl_10) (hE.w wl_11) rfl (hl.1.trans hE.1.2.2.1.symm) rfl dX6_init_1 (Nat.le_of_ble_eq_true rfl) (Nat.le_of_ble_eq_true rfl) ?_
  refine W.eq (g2 := F0 m 4 ls []) rfl ?_
  refine lv_aload_n hx hb dX6_init_4 rfl (lv_at hl 0 rfl) ?_
  refine lv_aload_n hx hb dX6_init_5 rfl (lv_at hl 1 rfl) ?_
  refine q_putF hE hW hp0 rfl q_k6 tyX6 tyX6_ok 0 (by decide) rfl wl_112 rfl hin rfl rfl rfl (by decide) rfl dX6_init_6 (fun ks1 H locs hW kg2 hp0 => ?_)
  have hg := q_Gw.tr hg kg2 (Or.inl rfl) hp0.here.2 (fun x hx => hW0.1.inL x hx)
  have ha1 := q_Gw.tag kg2 ha1 (by decide)
  have hW0 := hW
  have hp0 := hp0.know (List.mem_of_getElem? (i := 0) rfl) rfl (k := 0) rfl (q_1 ha1 (by decide)) (q_2 ha1 (by decide))
  refine lv_aload_n hx hb dX6_init_9 rfl (lv_at hl 0 rfl) ?_
  refine lv_bipush (v := 6) hx hb dX6_init_10 (by decide) ?_
  refine q_newI (ty := .int) (atype := .int) hE hB hW 17 rfl rfl rfl rfl wl_45 (by decide) (by decide) (by decide) (by decide) (Nat.le_of_ble_eq_true rfl) (Nat.le_of_ble_eq_true rfl) dX6_init_12 (fun kb3 kL4 kT5 ks6 H hW kg7 nkb3 hy9 hkb3 => ?_)
  refine W.widen (k := 1) (n := 6) (Nat.le_of_ble_eq_true rfl) (Nat.le_of_ble_eq_true rfl) ?_
  have fkb3 := (fun q9 => nkb3 (hg.1 _ q9))
  have ukb3 := hp0.nL nkb3
  have hg := q_Gw.tr hg kg7 (Or.inr fkb3) hy9 (fun x hx => hW0.1.inL x hx)
  have hp0 := hp0.mv kg7 ukb3
  have ha1 := q_Gw.tag kg7 ha1 (by decide)
  have hW0 := hW
  refine q_putF hE hW hp0 rfl q_k6 tyX6 tyX6_ok 1 (by decide) rfl wl_113 rfl hin rfl rfl rfl (by decide) rfl dX6_init_14 (fun ks8 H locs hW kg9 hp0 => ?_)
  have hg := q_Gw.tr hg kg9 (Or.inl rfl) hp0.here.2 (fun x hx => hW0.1.inL x hx)
  have ha1 := q_Gw.tag kg9 ha1 (by decide)
  have hkb3 := q_Gw.tag kg9 hkb3 (by decide)
  have hW0 := hW
  have hp0 := hp0.know (List.mem_of_getElem? (i := 0) rfl) rfl (k := 1) rfl (q_1 hkb3 (by decide)) (q_2 hkb3 (by decide))
  refine lv_aload_n hx hb dX6_init_17 rfl (lv_at hl 0 rfl) ?_
  refine lv_iconst (v := 3) hx hb dX6_init_18 (by decide) ?_
  refine q_newI (ty := .int) (atype := .int) hE hB hW 18 rfl rfl rfl rfl wl_45 (by decide) (by decide) (by decide) (by decide) (Nat.le_of_ble_eq_true rfl) (Nat.le_of_ble_eq_true rfl) dX6_init_19 (fun kb10 kL11 kT12 ks13 H hW kg14 nkb10 hy9 hkb10 => ?_)
  refine W.widen (k := 2) (n := 9) (Nat.le_of_ble_eq_true rfl) (Nat.le_of_ble_eq_true rfl) ?_
  have fkb10 := (fun q9 => nkb10 (hg.1 _ q9))
  have ukb10 := hp0.nL nkb10
  have hg := q_Gw.tr hg kg14 (Or.inr fkb10) hy9 (fun x hx => hW0.1.inL x hx)
  have hp0 := hp0.mv kg14 ukb10
  have ha1 := q_Gw.tag kg14 ha1 (by decide)
  have hkb3 := q_Gw.tag kg14 hkb3 (by decide)
  have hW0 := hW
  refine q_putF hE hW hp0 rfl q_k6 tyX6 tyX6_ok 2 (by decide) rfl wl_114 rfl hin rfl rfl rfl (by decide) rfl dX6_init_21 (fun ks15 H locs hW kg16 hp0 => ?_)
  have hg := q_Gw.tr hg kg16 (Or.inl rfl) hp0.here.2 (fun x hx => hW0.1.inL x hx)
  have ha1 := q_Gw.tag kg16 ha1 (by decide)
  have hkb3 := q_Gw.tag kg16 hkb3 (by decide)
  have hkb10 := q_Gw.tag kg16 hkb10 (by decide)
  have hW0 := hW
  have hp0 := hp0.know (List.mem_of_getElem? (i := 0) rfl) rfl (k := 2) rfl (q_1 hkb10 (by decide)) (q_2 hkb10 (by decide))
  refine lv_aload_n hx hb dX6_init_24 rfl (lv_at hl 0 rfl) ?_
  refine lv_bipush (v := 6) hx hb dX6_init_25 (by decide) ?_
  refine q_newI (ty := .int) (atype := .int) hE hB hW 19 rfl rfl rfl rfl wl_45 (by decide) (by decide) (by decide) (by decide) (Nat.le_of_ble_eq_true rfl) (Nat.le_of_ble_eq_true rfl) dX6_init_27 (fun kb17 kL18 kT19 ks20 H hW kg21 nkb17 hy9 hkb17 => ?_)
  refine W.widen (k := 3) (n := 15) (Nat.le_of_ble_eq_true rfl) (Nat.le_of_ble_eq_true rfl) ?_
  have fkb17 := (fun q9 => nkb17 (hg.1 _ q9))
  have ukb17 := hp0.nL nkb17
  have hg := q_Gw.tr hg kg21 (Or.inr fkb17) hy9 (fun x hx => hW0.1.inL x hx)
  have hp0 := hp0.mv kg21 ukb17
  have ha1 := q_Gw.tag kg21 ha1 (by decide)
  have hkb3 := q_Gw.tag kg21 hkb3 (by decide)
  have hkb10 := q_Gw.tag kg21 hkb10 (by decide)
  have hW0 := hW
  refine q_putF hE hW hp0 rfl q_k6 tyX6 tyX6_ok 3 (by decide) rfl wl_115 rfl hin rfl rfl rfl (by decide) rfl dX6_init_29 (fun ks22 H locs hW kg23 hp0 => ?_)
  have hg := q_Gw.tr hg kg23 (Or.inl rfl) hp0.here.2 (fun x hx => hW0.1.inL x hx)
  have ha1 := q_Gw.tag kg23 ha1 (by decide)
  have hkb3 := q_Gw.tag kg23 hkb3 (by decide)
  have hkb10 := q_Gw.tag kg23 hkb10 (by decide)
  have hkb17 := q_Gw.tag kg23 hkb17 (by decide)
  have hW0 := hW
  have hp0 := hp0.know (List.mem_of_getElem? (i := 0) rfl) rfl (k := 3) rfl (q_1 hkb17 (by decide)) (q_2 hkb17 (by decide))
  refine lv_aload_n hx hb dX6_init_32 rfl (lv_at hl 0 rfl) ?_
  refine lv_bipush (v := 6) hx hb dX6_init_33 (by decide) ?_
  refine q_newI (ty := .int) (atype := .int) hE hB hW 20 rfl rfl rfl rfl wl_45 (by decide) (by decide) (by decide) (by decide) (Nat.le_of_ble_eq_true rfl) (Nat.le_of_ble_eq_true rfl) dX6_init_35 (fun kb24 kL25 kT26 ks27 H hW kg28 nkb24 hy9 hkb24 => ?_)
  refine W.widen (k := 4) (n := 21) (Nat.le_of_ble_eq_true rfl) (Nat.le_of_ble_eq_true rfl) ?_
  have fkb24 := (fun q9 => nkb24 (hg.1 _ q9))
  have ukb24 := hp0.nL nkb24
  have hg := q_Gw.tr hg kg28 (Or.inr fkb24) hy9 (fun x hx => hW0.1.inL x hx)
  have hp0 := hp0.mv kg28 ukb24
  have ha1 := q_Gw.tag kg28 ha1 (by decide)
  have hkb3 := q_Gw.tag kg28 hkb3 (by decide)
  have hkb10 := q_Gw.tag kg28 hkb10 (by decide)
  have hkb17 := q_Gw.tag kg28 hkb17 (by decide)
  have hW0 := hW
  refine q_putF hE hW hp0 rfl q_k6 tyX6 tyX6_ok 4 (by decide) rfl wl_116 rfl hin rfl rfl rfl (by decide) rfl dX6_init_37 (fun ks29 H locs hW kg30 hp0 => ?_)
  have hg := q_Gw.tr hg kg30 (Or.inl rfl) hp0.here.2 (fun x hx => hW0.1.inL x hx)
  have ha1 := q_Gw.tag kg30 ha1 (by decide)
  have hkb3 := q_Gw.tag kg30 hkb3 (by decide)
  have hkb10 := q_Gw.tag kg30 hkb10 (by decide)
  have hkb17 := q_Gw.tag kg30 hkb17 (by decide)
  have hkb24 := q_Gw.tag kg30 hkb24 (by decide)
  have hW0 := hW
  have hp0 := hp0.know (List.mem_of_getElem? (i := 0) rfl) rfl (k := 4) rfl (q_1 hkb24 (by decide)) (q_2 hkb24 (by decide))
  refine lv_aload_n hx hb dX6_init_40 rfl (lv_at hl 0 rfl) ?_
  refine lv_iconst (v := 3) hx hb dX6_init_41 (by decide) ?_
  refine lv_bipush (v := 6) hx hb dX6_init_42 (by decide) ?_
  refine q_newM (ti := 22) hE hB hA hW 21 rfl rfl (by decide) (by decide) (by decide) (by decide) wl_117 wl_45 (by decide) (by decide) rfl rfl (by decide) (by decide) (by decide) (Nat.le_of_ble_eq_true rfl) (Nat.le_of_ble_eq_true rfl) dX6_init_44 (fun kb31 kL32 kT33 ks34 H hW kg35 nkb31 hy9 hkb31 => ?_)
  refine W.widen (k := 8) (n := 42) (Nat.le_of_ble_eq_true rfl) (Nat.le_of_ble_eq_true rfl) ?_
  have fkb31 := (fun q9 => nkb31 (hg.1 _ q9))
  have ukb31 := hp0.nL nkb31
  have hg := q_Gw.tr hg kg35 (Or.inr fkb31) hy9 (fun x hx => hW0.1.inL x hx)
  have hp0 := hp0.mv kg35 ukb31
  have ha1 := q_Gw.tag kg35 ha1 (by decide)
  have hkb3 := q_Gw.tag kg35 hkb3 (by decide)
  have hkb10 := q_Gw.tag kg35 hkb10 (by decide)
  have hkb17 := q_Gw.tag kg35 hkb17 (by decide)
  have hkb24 := q_Gw.tag kg35 hkb24 (by decide)
  have hW0 := hW
  refine q_putF hE hW hp0 rfl q_k6 tyX6 tyX6_ok 5 (by decide) rfl wl_118 rfl hin rfl rfl rfl (by decide) rfl dX6_init_48 (fun ks36 H locs hW kg37 hp0 => ?_)
  have hg := q_Gw.tr hg kg37 (Or.inl rfl) hp0.here.2 (fun x hx => hW0.1.inL x hx)
  have ha1 := q_Gw.tag kg37 ha1 (by decide)
  have hkb3 := q_Gw.tag kg37 hkb3 (by decide)
  have hkb10 := q_Gw.tag kg37 hkb10 (by decide)
  have hkb17 := q_Gw.tag kg37 hkb17 (by decide)
  have hkb24 := q_Gw.tag kg37 hkb24 (by decide)
  have hkb31 := q_Gw.tag kg37 hkb31 (by decide)
  have hW0 := hW
  have hp0 := hp0.know (List.mem_of_getElem? (i := 0) rfl) rfl (k := 5) rfl (q_1 hkb31 (by decide)) (q_2 hkb31 (by decide))
  obtain ⟨hW, hz8, hz9⟩ := hp0.tell hW rfl rfl (by decide)
  exact q_retC hE hr hlocks hW (q_Gw.tr hg hz8 (Or.inl rfl) hp0.here.2 (fun x hx => hW0.1.inL x hx)) hz9 dX6_init_51
set_option maxHeartbeats 8000000 in
set_option maxRecDepth 100000 in
theorem c_X2_init (l : Launch) (G : q_G) (L : List Nat) (T : Nat → Nat) (σ : q_S) (a0 : Nat) (hp0 : q_Po L T σ a0 7 [] []) (a1 : Nat) (ha1 : T a1 = 1) : Met l yX2_init (Cond.code yX2_init cX2_init 3 none :: wsL_law) (q_Rc 6 23 133) (q_PreC G L T σ [.ref a0, .ref a1]) (q_QcC G L T σ a0 7) 23 133 (q_N G) := by
  refine q_ofC (by decide) (Nat.le_of_ble_eq_true rfl) ?_
  intro p e s m args below meth c hE hin hB hA hr hlocks hW ls hl
  have hE : q_E G p s m args c cX2_init 3 RX2 := hE
  have hx := hE.1.1
  have hb := hE.1.2.1
  have hW0 := hW
  have hW00 := hW
  have hg := q_Gw.rf (L := L) (T := T) (σ := σ) a0
  have hl : lv_has ls 3 [(0, .ref a0), (1, .ref a1)] := hl
  refine lv_aload_n hx hb dX2_init_0 rfl (lv_at hl 0 rfl) ?_
  refine W.objInit hx hb hE.1.2.2.2.1 (hE.w wl_81) (hE.w wl_10) (hE.w wl_11) rfl (hl.1.trans hE.1.2.2.1.symm) rfl dX2_init_1 (Nat.le_of_ble_eq_true rfl) (Nat.le_of_ble_eq_true rfl) ?_
  refine W.eq (g2 := F0 m 4 ls []) rfl ?_
  refine lv_aload_n hx hb dX2_init_4 rfl (lv_at hl 0 rfl) ?_
  refine lv_bipush (v := 6) hx hb dX2_init_5 (by decide) ?_
  refine q_newR hE hB hW 8 rfl rfl wl_82 (by decide +kernel) (by decide) (by decide) (by decide) (Nat.le_of_ble_eq_true rfl) (Nat.le_of_ble_eq_true rfl) dX2_init_7 (fun kb1 kL2 ks3 H hW kg4 nkb1 hkb1 => ?_)
  refine W.widen (k := 1) (n := 6) (Nat.le_of_ble_eq_true rfl) (Nat.le_of_ble_eq_true rfl) ?_
  have fkb1 := (fun q9 => nkb1 (hg.1 _ q9))
  have ukb1 := hp0.nL nkb1
  have hg := q_Gw.tr hg kg4 (Or.inr fkb1) hkb1.here.2 (fun x hx => hW0.1.inL x hx)
  have hp0 := hp0.mv kg4 ukb1
  have ha1 := q_Gw.tag kg4 ha1 (by decide)
  have hW0 := hW
  refine q_putF hE hW hp0 rfl q_k2 tyX2 tyX2_ok 0 (by decide) rfl wl_83 rfl hin rfl rfl rfl (by decide) rfl dX2_init_10 (fun ks5 H locs hW kg6 hp0 => ?_)
  have hg := q_Gw.tr hg kg6 (Or.inl rfl) hp0.here.2 (fun x hx => hW0.1.inL x hx)
  have hkb1 := hkb1.mv kg6 (Ne.symm ukb1)
  have ha1 := q_Gw.tag kg6 ha1 (by decide)
  have hW0 := hW
  refine lv_iconst (v := 0) hx hb dX2_init_13 (by decide) ?_
  refine lv_istore_n (lv' := [(2, .int 0), (0, .ref a0), (1, .ref a1)]) hx hb dX2_init_14 rfl hl (by decide) rfl (fun ls hl => ?_)
  refine lv_iload_n hx hb dX2_init_15 rfl (lv_at hl 0 rfl) ?_
  refine lv_bipush (v := 6) hx hb dX2_init_16 (by decide) ?_
  refine lv_icmp_ge (tgt := 41) hx hb dX2_init_18 (by decide) (fun q_h => absurd q_h (by decide)) (fun _ => ?_)
  refine lv_aload_n hx hb dX2_init_21 rfl (lv_at hl 1 rfl) ?_
  refine q_getX hE hW hp0 rfl q_k2 0 (by decide) (List.mem_of_getElem? (i := 0) rfl) wl_83 dX2_init_22 ?_
  refine lv_iload_n hx hb dX2_init_25 rfl (lv_at hl 0 rfl) ?_
  refine q_new (t := 5) hE hB hW rfl q_k1 tyX1 tyX1_ok wl_82 wl_84 wl_85 (by decide +kernel) rfl (Nat.le_of_ble_eq_true rfl) (Nat.le_of_ble_eq_true rfl) dX2_init_26 (fun kb7 kL8 ks9 H hW kg10 nkb7 hkb7 => ?_)
  refine W.widen (k := 2) (n := 12) (Nat.le_of_ble_eq_true rfl) (Nat.le_of_ble_eq_true rfl) ?_
  have fkb7 := (fun q9 => nkb7 (hg.1 _ q9))
  have ukb7 := hp0.nL nkb7
  have ukb1_kb7 := hkb1.nL nkb7
  have hg := q_Gw.tr hg kg10 (Or.inr fkb7) hkb7.here.2 (fun x hx => hW0.1.inL x hx)
  have hp0 := hp0.mv kg10 ukb7
  have hkb1 := hkb1.mv kg10 ukb1_kb7
  have ha1 := q_Gw.tag kg10 ha1 (by decide)
  have hW0 := hW
  refine lv_dup hx hb dX2_init_29 rfl ?_
  refine lv_aload_n hx hb dX2_init_30 rfl (lv_at hl 2 rfl) ?_
  refine q_initC (n := 1) (As := [.ref a1]) (rest := [.ref kb7, .int 0, .ref kb1]) hE hB hA hW (c_X1_init l G kL8 T ks9 kb7 hkb7 a1 ha1) wl_93 wl_85 wl_91 wl_92 rfl ⟨by decide, by decide, by decide +kernel⟩ rfl hl.1 rfl (Nat.le_of_ble_eq_true rfl) dX2_init_31 ⟨by decide, by decide⟩ ⟨Nat.le_of_ble_eq_true rfl, Nat.le_of_ble_eq_true rfl⟩ (fun kL11 kT12 ks13 H locs hW kg14 hz9 => ?_)
  refine W.widen (k := 3) (n := 18) (Nat.le_of_ble_eq_true rfl) (Nat.le_of_ble_eq_true rfl) ?_
  have hy9 := hkb7.here.2
  have hg := q_Gw.tr hg kg14 (Or.inr fkb7) hy9 (fun x hx => hW0.1.inL x hx)
  have hp0 := hp0.mv kg14 ukb7
  have hkb1 := hkb1.mv kg14 ukb1_kb7
  have ha1 := q_Gw.tag kg14 ha1 (by decide)
  have hW0 := hW
  have hkb7 := hz9
  refine q_aaP (E := RX1) hE hW 0 hkb1 rfl rfl hkb7 (by decide) rfl q_k1 (Or.inl rfl) (by decide) (by decide) (by decide) (q_in (q_c (k := 0) (x := 0) (by decide)) (by decide) (by decide)) dX2_init_34 (fun ks15 H locs hW kg16 hkb1 => ?_)
  have hg := q_Gw.tr hg kg16 (Or.inr fkb1) hkb1.here.2 (fun x hx => hW0.1.inL x hx)
  have hp0 := hp0.mv kg16 ukb1
  have ha1 := q_Gw.tag kg16 ha1 (by decide)
  have hkb7 := q_Gw.tag kg16 hkb7 (by decide)
  have hW0 := hW
  refine lv_iinc (v := 1) (lv' := [(2, .int 1), (0, .ref a0), (1, .ref a1)]) hx hb dX2_init_35 hl (k := 0) rfl (by decide) (by decide) rfl (fun ls hl => ?_)
  refine lv_goto (tgt := 15) hx hb dX2_init_38 (by decide) ?_
  refine lv_iload_n hx hb dX2_init_15 rfl (lv_at hl 0 rfl) ?_
  refine lv_bipush (v := 6) hx hb dX2_init_16 (by decide) ?_
  refine lv_icmp_ge (tgt := 41) hx hb dX2_init_18 (by decide) (fun q_h => absurd q_h (by decide)) (fun _ => ?_)
  refine lv_aload_n hx hb dX2_init_21 rfl (lv_at hl 1 rfl) ?_
  refine q_getX hE hW hp0 rfl q_k2 0 (by decide) (List.mem_of_getElem? (i := 0) rfl) wl_83 dX2_init_22 ?_
  refine lv_iload_n hx hb dX2_init_25 rfl (lv_at hl 0 rfl) ?_
  refine q_new (t := 5) hE hB hW rfl q_k1 tyX1 tyX1_ok wl_82 wl_84 wl_85 (by decide +kernel) rfl (Nat.le_of_ble_eq_true rfl) (Nat.le_of_ble_eq_true rfl) dX2_init_26 (fun kb17 kL18 ks19 H hW kg20 nkb17 hkb17 => ?_)
  refine W.widen (k := 4) (n := 24) (Nat.le_of_ble_eq_true rfl) (Nat.le_of_ble_eq_true rfl) ?_
  have fkb17 := (fun q9 => nkb17 (hg.1 _ q9))
  have ukb17 := hp0.nL nkb17
  have ukb1_kb17 := hkb1.nL nkb17
  have hg := q_Gw.tr hg kg20 (Or.inr fkb17) hkb17.here.2 (fun x hx => hW0.1.inL x hx)
  have hp0 := hp0.mv kg20 ukb17
  have hkb1 := hkb1.mv kg20 ukb1_kb17
  have ha1 := q_Gw.tag kg20 ha1 (by decide)
  have hW0 := hW
  refine lv_dup hx hb dX2_init_29 rfl ?_
  refine lv_aload_n hx hb dX2_init_30 rfl (lv_at hl 2 rfl) ?_
  refine q_initC (n := 1) (As := [.ref a1]) (rest := [.ref kb17, .int 1, .ref kb1]) hE hB hA hW (c_X1_init l G kL18 kT12 ks19 kb17 hkb17 a1 ha1) wl_93 wl_85 wl_91 wl_92 rfl ⟨by decide, by decide, by decide +kernel⟩ rfl hl.1 rfl (Nat.le_of_ble_eq_true rfl) dX2_init_31 ⟨by decide, by decide⟩ ⟨Nat.le_of_ble_eq_true rfl, Nat.le_of_ble_eq_true rfl⟩ (fun kL21 kT22 ks23 H locs hW kg24 hz9 => ?_)
  refine W.widen (k := 5) (n := 30) (Nat.le_of_ble_eq_true rfl) (Nat.le_of_ble_eq_true rfl) ?_
  have hy9 := hkb17.here.2
  have hg := q_Gw.tr hg kg24 (Or.inr fkb17) hy9 (fun x hx => hW0.1.inL x hx)
  have hp0 := hp0.mv kg24 ukb17
  have hkb1 := hkb1.mv kg24 ukb1_kb17
  have ha1 := q_Gw.tag kg24 ha1 (by decide)
  have hW0 := hW
  have hkb17 := hz9
  refine q_aaP (E := RX1) hE hW 1 hkb1 rfl rfl hkb17 (by decide) rfl q_k1 (Or.inl rfl) (by decide) (by decide) (by decide) (q_in (q_c (k := 1) (x := 1) (by decide)) (by decide) (by decide)) dX2_init_34 (fun ks25 H locs hW kg26 hkb1 => ?_)
  have hg := q_Gw.tr hg kg26 (Or.inr fkb1) hkb1.here.2 (fun x hx => hW0.1.inL x hx)
  have hp0 := hp0.mv kg26 ukb1
  have ha1 := q_Gw.tag kg26 ha1 (by decide)
  have hkb17 := q_Gw.tag kg26 hkb17 (by decide)
  have hW0 := hW
  refine lv_iinc (v := 2) (lv' := [(2, .int 2), (0, .ref a0), (1, .ref a1)]) hx hb dX2_init_35 hl (k := 0) rfl (by decide) (by decide) rfl (fun ls hl => ?_)
  refine lv_goto (tgt := 15) hx hb dX2_init_38 (by decide) ?_
  refine lv_iload_n hx hb dX2_init_15 rfl (lv_at hl 0 rfl) ?_
  refine lv_bipush (v := 6) hx hb dX2_init_16 (by decide) ?_
  refine lv_icmp_ge (tgt := 41) hx hb dX2_init_18 (by decide) (fun q_h => absurd q_h (by decide)) (fun _ => ?_)
  refine lv_aload_n hx hb dX2_init_21 rfl (lv_at hl 1 rfl) ?_
  refine q_getX hE hW hp0 rfl q_k2 0 (by decide) (List.mem_of_getElem? (i := 0) rfl) wl_83 dX2_init_22 ?_
  refine lv_iload_n hx hb dX2_init_25 rfl (lv_at hl 0 rfl) ?_
  refine q_new (t := 5) hE hB hW rfl q_k1 tyX1 tyX1_ok wl_82 wl_84 wl_85 (by decide +kernel) rfl (Nat.le_of_ble_eq_true rfl) (Nat.le_of_ble_eq_true rfl) dX2_init_26 (fun kb27 kL28 ks29 H hW kg30 nkb27 hkb27 => ?_)
  refine W.widen (k := 6) (n := 36) (Nat.le_of_ble_eq_true rfl) (Nat.le_of_ble_eq_true rfl) ?_
  have fkb27 := (fun q9 => nkb27 (hg.1 _ q9))
  have ukb27 := hp0.nL nkb27
  have ukb1_kb27 := hkb1.nL nkb27
  have hg := q_Gw.tr hg kg30 (Or.inr fkb27) hkb27.here.2 (fun x hx => hW0.1.inL x hx)
  have hp0 := hp0.mv kg30 ukb27
  have hkb1 := hkb1.mv kg30 ukb1_kb27
  have ha1 := q_Gw.tag kg30 ha1 (by decide)
  have hW0 := hW
  refine lv_dup hx hb dX2_init_29 rfl ?_
  refine lv_aload_n hx hb dX2_init_30 rfl (lv_at hl 2 rfl) ?_
  refine q_initC (n := 1) (As := [.ref a1]) (rest := [.ref kb27, .int 2, .ref kb1]) hE hB hA hW (c_X1_init l G kL28 kT22 ks29 kb27 hkb27 a1 ha1) wl_93 wl_85 wl_91 wl_92 rfl ⟨by decide, by decide, by decide +kernel⟩ rfl hl.1 rfl (Nat.le_of_ble_eq_true rfl) dX2_init_31 ⟨by decide, by decide⟩ ⟨Nat.le_of_ble_eq_true rfl, Nat.le_of_ble_eq_true rfl⟩ (fun kL31 kT32 ks33 H locs hW kg34 hz9 => ?_)
  refine W.widen (k := 7) (n := 42) (Nat.le_of_ble_eq_true rfl) (Nat.le_of_ble_eq_true rfl) ?_
  have hy9 := hkb27.here.2
  have hg := q_Gw.tr hg kg34 (Or.inr fkb27) hy9 (fun x hx => hW0.1.inL x hx)
  have hp0 := hp0.mv kg34 ukb27
  have hkb1 := hkb1.mv kg34 ukb1_kb27
  have ha1 := q_Gw.tag kg34 ha1 (by decide)
  have hW0 := hW
  have hkb27 := hz9
  refine q_aaP (E := RX1) hE hW 2 hkb1 rfl rfl hkb27 (by decide) rfl q_k1 (Or.inl rfl) (by decide) (by decide) (by decide) (q_in (q_c (k := 2) (x := 2) (by decide)) (by decide) (by decide)) dX2_init_34 (fun ks35 H locs hW kg36 hkb1 => ?_)
  have hg := q_Gw.tr hg kg36 (Or.inr fkb1) hkb1.here.2 (fun x hx => hW0.1.inL x hx)
  have hp0 := hp0.mv kg36 ukb1
  have ha1 := q_Gw.tag kg36 ha1 (by decide)
  have hkb27 := q_Gw.tag kg36 hkb27 (by decide)
  have hW0 := hW
  refine lv_iinc (v := 3) (lv' := [(2, .int 3), (0, .ref a0), (1, .ref a1)]) hx hb dX2_init_35 hl (k := 0) rfl (by decide) (by decide) rfl (fun ls hl => ?_)
  refine lv_goto (tgt := 15) hx hb dX2_init_38 (by decide) ?_
  refine lv_iload_n hx hb dX2_init_15 rfl (lv_at hl 0 rfl) ?_
  refine lv_bipush (v := 6) hx hb dX2_init_16 (by decide) ?_
  refine lv_icmp_ge (tgt := 41) hx hb dX2_init_18 (by decide) (fun q_h => absurd q_h (by decide)) (fun _ => ?_)
  refine lv_aload_n hx hb dX2_init_21 rfl (lv_at hl 1 rfl) ?_
  refine q_getX hE hW hp0 rfl q_k2 0 (by decide) (List.mem_of_getElem? (i := 0) rfl) wl_83 dX2_init_22 ?_
  refine lv_iload_n hx hb dX2_init_25 rfl (lv_at hl 0 rfl) ?_
  refine q_new (t := 5) hE hB hW rfl q_k1 tyX1 tyX1_ok wl_82 wl_84 wl_85 (by decide +kernel) rfl (Nat.le_of_ble_eq_true rfl) (Nat.le_of_ble_eq_true rfl) dX2_init_26 (fun kb37 kL38 ks39 H hW kg40 nkb37 hkb37 => ?_)
  refine W.widen (k := 8) (n := 48) (Nat.le_of_ble_eq_true rfl) (Nat.le_of_ble_eq_true rfl) ?_
  have fkb37 := (fun q9 => nkb37 (hg.1 _ q9))
  have ukb37 := hp0.nL nkb37
  have ukb1_kb37 := hkb1.nL nkb37
  have hg := q_Gw.tr hg kg40 (Or.inr fkb37) hkb37.here.2 (fun x hx => hW0.1.inL x hx)
  have hp0 := hp0.mv kg40 ukb37
  have hkb1 := hkb1.mv kg40 ukb1_kb37
  have ha1 := q_Gw.tag kg40 ha1 (by decide)
  have hW0 := hW
  refine lv_dup hx hb dX2_init_29 rfl ?_
  refine lv_aload_n hx hb dX2_init_30 rfl (lv_at hl 2 rfl) ?_
  refine q_initC (n := 1) (As := [.ref a1]) (rest := [.ref kb37, .int 3, .ref kb1]) hE hB hA hW (c_X1_init l G kL38 kT32 ks39 kb37 hkb37 a1 ha1) wl_93 wl_85 wl_91 wl_92 rfl ⟨by decide, by decide, by decide +kernel⟩ rfl hl.1 rfl (Nat.le_of_ble_eq_true rfl) dX2_init_31 ⟨by decide, by decide⟩ ⟨Nat.le_of_ble_eq_true rfl, Nat.le_of_ble_eq_true rfl⟩ (fun kL41 kT42 ks43 H locs hW kg44 hz9 => ?_)
  refine W.widen (k := 9) (n := 54) (Nat.le_of_ble_eq_true rfl) (Nat.le_of_ble_eq_true rfl) ?_
  have hy9 := hkb37.here.2
  have hg := q_Gw.tr hg kg44 (Or.inr fkb37) hy9 (fun x hx => hW0.1.inL x hx)
  have hp0 := hp0.mv kg44 ukb37
  have hkb1 := hkb1.mv kg44 ukb1_kb37
  have ha1 := q_Gw.tag kg44 ha1 (by decide)
  have hW0 := hW
  have hkb37 := hz9
  refine q_aaP (E := RX1) hE hW 3 hkb1 rfl rfl hkb37 (by decide) rfl q_k1 (Or.inl rfl) (by decide) (by decide) (by decide) (q_in (q_c (k := 3) (x := 3) (by decide)) (by decide) (by decide)) dX2_init_34 (fun ks45 H locs hW kg46 hkb1 => ?_)
  have hg := q_Gw.tr hg kg46 (Or.inr fkb1) hkb1.here.2 (fun x hx => hW0.1.inL x hx)
  have hp0 := hp0.mv kg46 ukb1
  have ha1 := q_Gw.tag kg46 ha1 (by decide)
  have hkb37 := q_Gw.tag kg46 hkb37 (by decide)
  have hW0 := hW
  refine lv_iinc (v := 4) (lv' := [(2, .int 4), (0, .ref a0), (1, .ref a1)]) hx hb dX2_init_35 hl (k := 0) rfl (by decide) (by decide) rfl (fun ls hl => ?_)
  refine lv_goto (tgt := 15) hx hb dX2_init_38 (by decide) ?_
  refine lv_iload_n hx hb dX2_init_15 rfl (lv_at hl 0 rfl) ?_
  refine lv_bipush (v := 6) hx hb dX2_init_16 (by decide) ?_
  refine lv_icmp_ge (tgt := 41) hx hb dX2_init_18 (by decide) (fun q_h => absurd q_h (by decide)) (fun _ => ?_)
  refine lv_aload_n hx hb dX2_init_21 rfl (lv_at hl 1 rfl) ?_
  refine q_getX hE hW hp0 rfl q_k2 0 (by decide) (List.mem_of_getElem? (i := 0) rfl) wl_83 dX2_init_22 ?_
  refine lv_iload_n hx hb dX2_init_25 rfl (lv_at hl 0 rfl) ?_
  refine q_new (t := 5) hE hB hW rfl q_k1 tyX1 tyX1_ok wl_82 wl_84 wl_85 (by decide +kernel) rfl (Nat.le_of_ble_eq_true rfl) (Nat.le_of_ble_eq_true rfl) dX2_init_26 (fun kb47 kL48 ks49 H hW kg50 nkb47 hkb47 => ?_)
  refine W.widen (k := 10) (n := 60) (Nat.le_of_ble_eq_true rfl) (Nat.le_of_ble_eq_true rfl) ?_
  have fkb47 := (fun q9 => nkb47 (hg.1 _ q9))
  have ukb47 := hp0.nL nkb47
  have ukb1_kb47 := hkb1.nL nkb47
  have hg := q_Gw.tr hg kg50 (Or.inr fkb47) hkb47.here.2 (fun x hx => hW0.1.inL x hx)
  have hp0 := hp0.mv kg50 ukb47
  have hkb1 := hkb1.mv kg50 ukb1_kb47
  have ha1 := q_Gw.tag kg50 ha1 (by decide)
  have hW0 := hW
  refine lv_dup hx hb dX2_init_29 rfl ?_
  refine lv_aload_n hx hb dX2_init_30 rfl (lv_at hl 2 rfl) ?_
  refine q_initC (n := 1) (As := [.ref a1]) (rest := [.ref kb47, .int 4, .ref kb1]) hE hB hA hW (c_X1_init l G kL48 kT42 ks49 kb47 hkb47 a1 ha1) wl_93 wl_85 wl_91 wl_92 rfl ⟨by decide, by decide, by decide +kernel⟩ rfl hl.1 rfl (Nat.le_of_ble_eq_true rfl) dX2_init_31 ⟨by decide, by decide⟩ ⟨Nat.le_of_ble_eq_true rfl, Nat.le_of_ble_eq_true rfl⟩ (fun kL51 kT52 ks53 H locs hW kg54 hz9 => ?_)
  refine W.widen (k := 11) (n := 66) (Nat.le_of_ble_eq_true rfl) (Nat.le_of_ble_eq_true rfl) ?_
  have hy9 := hkb47.here.2
  have hg := q_Gw.tr hg kg54 (Or.inr fkb47) hy9 (fun x hx => hW0.1.inL x hx)
  have hp0 := hp0.mv kg54 ukb47
  have hkb1 := hkb1.mv kg54 ukb1_kb47
  have ha1 := q_Gw.tag kg54 ha1 (by decide)
  have hW0 := hW
  have hkb47 := hz9
  refine q_aaP (E := RX1) hE hW 4 hkb1 rfl rfl hkb47 (by decide) rfl q_k1 (Or.inl rfl) (by decide) (by decide) (by decide) (q_in (q_c (k := 4) (x := 4) (by decide)) (by decide) (by decide)) dX2_init_34 (fun ks55 H locs hW kg56 hkb1 => ?_)
  have hg := q_Gw.tr hg kg56 (Or.inr fkb1) hkb1.here.2 (fun x hx => hW0.1.inL x hx)
  have hp0 := hp0.mv kg56 ukb1
  have ha1 := q_Gw.tag kg56 ha1 (by decide)
  have hkb47 := q_Gw.tag kg56 hkb47 (by decide)
  have hW0 := hW
  refine lv_iinc (v := 5) (lv' := [(2, .int 5), (0, .ref a0), (1, .ref a1)]) hx hb dX2_init_35 hl (k := 0) rfl (by decide) (by decide) rfl (fun ls hl => ?_)
  refine lv_goto (tgt := 15) hx hb dX2_init_38 (by decide) ?_
  refine lv_iload_n hx hb dX2_init_15 rfl (lv_at hl 0 rfl) ?_
  refine lv_bipush (v := 6) hx hb dX2_init_16 (by decide) ?_
  refine lv_icmp_ge (tgt := 41) hx hb dX2_init_18 (by decide) (fun q_h => absurd q_h (by decide)) (fun _ => ?_)
  refine lv_aload_n hx hb dX2_init_21 rfl (lv_at hl 1 rfl) ?_
  refine q_getX hE hW hp0 rfl q_k2 0 (by decide) (List.mem_of_getElem? (i := 0) rfl) wl_83 dX2_init_22 ?_
  refine lv_iload_n hx hb dX2_init_25 rfl (lv_at hl 0 rfl) ?_
  refine q_new (t := 5) hE hB hW rfl q_k1 tyX1 tyX1_ok wl_82 wl_84 wl_85 (by decide +kernel) rfl (Nat.le_of_ble_eq_true rfl) (Nat.le_of_ble_eq_true rfl) dX2_init_26 (fun kb57 kL58 ks59 H hW kg60 nkb57 hkb57 => ?_)
  refine W.widen (k := 12) (n := 72) (Nat.le_of_ble_eq_true rfl) (Nat.le_of_ble_eq_true rfl) ?_
  have fkb57 := (fun q9 => nkb57 (hg.1 _ q9))
  have ukb57 := hp0.nL nkb57
  have ukb1_kb57 := hkb1.nL nkb57
  have hg := q_Gw.tr hg kg60 (Or.inr fkb57) hkb57.here.2 (fun x hx => hW0.1.inL x hx)
  have hp0 := hp0.mv kg60 ukb57
  have hkb1 := hkb1.mv kg60 ukb1_kb57
  have ha1 := q_Gw.tag kg60 ha1 (by decide)
  have hW0 := hW
  refine lv_dup hx hb dX2_init_29 rfl ?_
  refine lv_aload_n hx hb dX2_init_30 rfl (lv_at hl 2 rfl) ?_
  refine q_initC (n := 1) (As := [.ref a1]) (rest := [.ref kb57, .int 5, .ref kb1]) hE hB hA hW (c_X1_init l G kL58 kT52 ks59 kb57 hkb57 a1 ha1) wl_93 wl_85 wl_91 wl_92 rfl ⟨by decide, by decide, by decide +kernel⟩ rfl hl.1 rfl (Nat.le_of_ble_eq_true rfl) dX2_init_31 ⟨by decide, by decide⟩ ⟨Nat.le_of_ble_eq_true rfl, Nat.le_of_ble_eq_true rfl⟩ (fun kL61 kT62 ks63 H locs hW kg64 hz9 => ?_)
  refine W.widen (k := 13) (n := 78) (Nat.le_of_ble_eq_true rfl) (Nat.le_of_ble_eq_true rfl) ?_
  have hy9 := hkb57.here.2
  have hg := q_Gw.tr hg kg64 (Or.inr fkb57) hy9 (fun x hx => hW0.1.inL x hx)
  have hp0 := hp0.mv kg64 ukb57
  have hkb1 := hkb1.mv kg64 ukb1_kb57
  have ha1 := q_Gw.tag kg64 ha1 (by decide)
  have hW0 := hW
  have hkb57 := hz9
  refine q_aaP (E := RX1) hE hW 5 hkb1 rfl rfl hkb57 (by decide) rfl q_k1 (Or.inl rfl) (by decide) (by decide) (by decide) (q_in (q_c (k := 5) (x := 5) (by decide)) (by decide) (by decide)) dX2_init_34 (fun ks65 H locs hW kg66 hkb1 => ?_)
  have hg := q_Gw.tr hg kg66 (Or.inr fkb1) hkb1.here.2 (fun x hx => hW0.1.inL x hx)
  have hp0 := hp0.mv kg66 ukb1
  have ha1 := q_Gw.tag kg66 ha1 (by decide)
  have hkb57 := q_Gw.tag kg66 hkb57 (by decide)
  have hW0 := hW
  obtain ⟨hW, kg67, hz9⟩ := hkb1.tell hW rfl rfl
  have hy9 := hkb1.here.2
  have hg := q_Gw.tr hg kg67 (Or.inr fkb1) hy9 (fun x hx => hW0.1.inL x hx)
  have hp0 := hp0.mv kg67 ukb1
  have ha1 := q_Gw.tag kg67 ha1 (by decide)
  have hkb57 := q_Gw.tag kg67 hkb57 (by decide)
  have hW0 := hW
  have hkb1 := hz9
  have hp0 := hp0.know (List.mem_of_getElem? (i := 0) rfl) rfl (k := 0) rfl (q_1 hkb1 (by decide)) (q_2 hkb1 (by decide))
  refine lv_iinc (v := 6) (lv' := [(2, .int 6), (0, .ref a0), (1, .ref a1)]) hx hb dX2_init_35 hl (k := 0) rfl (by decide) (by decide) rfl (fun ls hl => ?_)
  refine lv_goto (tgt := 15) hx hb dX2_init_38 (by decide) ?_
  refine lv_iload_n hx hb dX2_init_15 rfl (lv_at hl 0 rfl) ?_
  refine lv_bipush (v := 6) hx hb dX2_init_16 (by decide) ?_
  refine lv_icmp_ge (tgt := 41) hx hb dX2_init_18 (by decide) (fun _ => ?_) (fun q_h => absurd (by decide) q_h)
  refine lv_aload_n hx hb dX2_init_41 rfl (lv_at hl 1 rfl) ?_
  refine lv_iconst (v := 3) hx hb dX2_init_42 (by decide) ?_
  refine q_newI (ty := .int) (atype := .int) hE hB hW 9 rfl rfl rfl rfl wl_45 (by decide) (by decide) (by decide) (by decide) (Nat.le_of_ble_eq_true rfl) (Nat.le_of_ble_eq_true rfl) dX2_init_43 (fun kb68 kL69 kT70 ks71 H hW kg72 nkb68 hy9 hkb68 => ?_)
  refine W.widen (k := 14) (n := 81) (Nat.le_of_ble_eq_true rfl) (Nat.le_of_ble_eq_true rfl) ?_
  have fkb68 := (fun q9 => nkb68 (hg.1 _ q9))
  have ukb68 := hp0.nL nkb68
  have hg := q_Gw.tr hg kg72 (Or.inr fkb68) hy9 (fun x hx => hW0.1.inL x hx)
  have hp0 := hp0.mv kg72 ukb68
  have ha1 := q_Gw.tag kg72 ha1 (by decide)
  have hkb1 := q_Gw.tag kg72 hkb1 (by decide)
  have hW0 := hW
  refine q_putF hE hW hp0 rfl q_k2 tyX2 tyX2_ok 2 (by decide) rfl wl_86 rfl hin rfl rfl rfl (by decide) rfl dX2_init_45 (fun ks73 H locs hW kg74 hp0 => ?_)
  have hg := q_Gw.tr hg kg74 (Or.inl rfl) hp0.here.2 (fun x hx => hW0.1.inL x hx)
  have ha1 := q_Gw.tag kg74 ha1 (by decide)
  have hkb1 := q_Gw.tag kg74 hkb1 (by decide)
  have hkb68 := q_Gw.tag kg74 hkb68 (by decide)
  have hW0 := hW
  have hp0 := hp0.know (List.mem_of_getElem? (i := 0) rfl) rfl (k := 2) rfl (q_1 hkb68 (by decide)) (q_2 hkb68 (by decide))
  refine lv_aload_n hx hb dX2_init_48 rfl (lv_at hl 1 rfl) ?_
  refine lv_iconst (v := 3) hx hb dX2_init_49 (by decide) ?_
  refine q_newI (ty := .int) (atype := .int) hE hB hW 10 rfl rfl rfl rfl wl_45 (by decide) (by decide) (by decide) (by decide) (Nat.le_of_ble_eq_true rfl) (Nat.le_of_ble_eq_true rfl) dX2_init_50 (fun kb75 kL76 kT77 ks78 H hW kg79 nkb75 hy9 hkb75 => ?_)
  refine W.widen (k := 15) (n := 84) (Nat.le_of_ble_eq_true rfl) (Nat.le_of_ble_eq_true rfl) ?_
  have fkb75 := (fun q9 => nkb75 (hg.1 _ q9))
  have ukb75 := hp0.nL nkb75
  have hg := q_Gw.tr hg kg79 (Or.inr fkb75) hy9 (fun x hx => hW0.1.inL x hx)
  have hp0 := hp0.mv kg79 ukb75
  have ha1 := q_Gw.tag kg79 ha1 (by decide)
  have hkb1 := q_Gw.tag kg79 hkb1 (by decide)
  have hkb68 := q_Gw.tag kg79 hkb68 (by decide)
  have hW0 := hW
  refine q_putF hE hW hp0 rfl q_k2 tyX2 tyX2_ok 3 (by decide) rfl wl_87 rfl hin rfl rfl rfl (by decide) rfl dX2_init_52 (fun ks80 H locs hW kg81 hp0 => ?_)
  have hg := q_Gw.tr hg kg81 (Or.inl rfl) hp0.here.2 (fun x hx => hW0.1.inL x hx)
  have ha1 := q_Gw.tag kg81 ha1 (by decide)
  have hkb1 := q_Gw.tag kg81 hkb1 (by decide)
  have hkb68 := q_Gw.tag kg81 hkb68 (by decide)
  have hkb75 := q_Gw.tag kg81 hkb75 (by decide)
  have hW0 := hW
  have hp0 := hp0.know (List.mem_of_getElem? (i := 0) rfl) rfl (k := 3) rfl (q_1 hkb75 (by decide)) (q_2 hkb75 (by decide))
  refine lv_aload_n hx hb dX2_init_55 rfl (lv_at hl 1 rfl) ?_
  refine q_getX hE hW hp0 rfl q_k2 3 (by decide) (List.mem_of_getElem? (i := 0) rfl) wl_87 dX2_init_56 ?_
  refine lv_iconst (v := (-1)) hx hb dX2_init_59 (by decide) ?_
  refine q_govC hW (q_runS (G := q_Gx G kL76 kT77) (As := [.ref kb75, .int (-1)]) (rest := []) (show q_E (q_Gx G kL76 kT77) p s m args c cX2_init 3 RX2 from hE) (show q_Wd (q_Gx G kL76 kT77) [10] ks80 s.heap ks80 _ _ from ⟨hW.1, q_Fr.rf, hW.2⟩) (c_J7_fill_53178_t10 l (q_Gx G kL76 kT77) ks80 kb75 hkb75 (-1)) kw_X2_27 rfl hl.1 rfl (Nat.le_of_ble_eq_true rfl) dX2_init_60 ⟨by decide, by decide⟩ ⟨by decide, by decide⟩) (by decide) (fun ks82 H locs hst hW => ?_)
  have hst0 := hst a0
  have hst1 := hst (a0 + 1)
  have hp0 := hp0.mv hst1 (Nat.ne_of_lt (Nat.lt_succ_self _))
  have hg := q_Gw.tr hg hst0 (Or.inl rfl) hp0.here.2 (fun x hx => hW0.1.inL x hx)
  have ha1 := q_Gw.tag hst0 ha1 (by decide)
  have hkb1 := q_Gw.tag hst0 hkb1 (by decide)
  have hkb68 := q_Gw.tag hst0 hkb68 (by decide)
  have hkb75 := q_Gw.tag hst0 hkb75 (by decide)
  have hW0 := hW
  refine lv_aload_n hx hb dX2_init_63 rfl (lv_at hl 1 rfl) ?_
  refine lv_bipush (v := 7) hx hb dX2_init_64 (by decide) ?_
  refine lv_bipush (v := 6) hx hb dX2_init_66 (by decide) ?_
  refine q_newM (ti := 12) hE hB hA hW 11 rfl rfl (by decide) (by decide) (by decide) (by decide) wl_88 wl_45 (by decide) (by decide) rfl rfl (by decide) (by decide) (by decide) (Nat.le_of_ble_eq_true rfl) (Nat.le_of_ble_eq_true rfl) dX2_init_68 (fun kb83 kL84 kT85 ks86 H hW kg87 nkb83 hy9 hkb83 => ?_)
  refine W.widen (k := 23) (n := 133) (Nat.le_of_ble_eq_true rfl) (Nat.le_of_ble_eq_true rfl) ?_
  have fkb83 := (fun q9 => nkb83 (hg.1 _ q9))
  have ukb83 := hp0.nL nkb83
  have hg := q_Gw.tr hg kg87 (Or.inr fkb83) hy9 (fun x hx => hW0.1.inL x hx)
  have hp0 := hp0.mv kg87 ukb83
  have ha1 := q_Gw.tag kg87 ha1 (by decide)
  have hkb1 := q_Gw.tag kg87 hkb1 (by decide)
  have hkb68 := q_Gw.tag kg87 hkb68 (by decide)
  have hkb75 := q_Gw.tag kg87 hkb75 (by decide)
  have hW0 := hW
  refine q_putF hE hW hp0 rfl q_k2 tyX2 tyX2_ok 5 (by decide) rfl wl_89 rfl hin rfl rfl rfl (by decide) rfl dX2_init_72 (fun ks88 H locs hW kg89 hp0 => ?_)
  have hg := q_Gw.tr hg kg89 (Or.inl rfl) hp0.here.2 (fun x hx => hW0.1.inL x hx)
  have ha1 := q_Gw.tag kg89 ha1 (by decide)
  have hkb1 := q_Gw.tag kg89 hkb1 (by decide)
  have hkb68 := q_Gw.tag kg89 hkb68 (by decide)
  have hkb75 := q_Gw.tag kg89 hkb75 (by decide)
  have hkb83 := q_Gw.tag kg89 hkb83 (by decide)
  have hW0 := hW
  have hp0 := hp0.know (List.mem_of_getElem? (i := 0) rfl) rfl (k := 5) rfl (q_1 hkb83 (by decide)) (q_2 hkb83 (by decide))
  refine lv_aload_n hx hb dX2_init_75 rfl (lv_at hl 1 rfl) ?_
  refine lv_bipush (v := 8) hx hb dX2_init_76 (by decide) ?_
  refine q_putI hE hW hp0 rfl q_k2 tyX2 tyX2_ok 7 (by decide) rfl wl_90 rfl (by decide) rfl rfl (by decide) rfl dX2_init_78 (fun ks90 H locs hW kg91 hp0 => ?_)
  have hg := q_Gw.tr hg kg91 (Or.inl rfl) hp0.here.2 (fun x hx => hW0.1.inL x hx)
  have ha1 := q_Gw.tag kg91 ha1 (by decide)
  have hkb1 := q_Gw.tag kg91 hkb1 (by decide)
  have hkb68 := q_Gw.tag kg91 hkb68 (by decide)
  have hkb75 := q_Gw.tag kg91 hkb75 (by decide)
  have hkb83 := q_Gw.tag kg91 hkb83 (by decide)
  have hW0 := hW
  obtain ⟨hW, hz8, hz9⟩ := hp0.tell hW rfl rfl (by decide)
  exact q_retC hE hr hlocks hW (q_Gw.tr hg hz8 (Or.inl rfl) hp0.here.2 (fun x hx => hW0.1.inL x hx)) hz9 dX2_init_81
