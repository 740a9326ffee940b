theorem kw_X11_191 : q_wS RX11 191 yX11_isOne cX11_isOne 2 (some .boolean) 2 := ⟨⟨wl_562, wl_563, wl_2, wl_564⟩, by decide, by decide, by decide +kernel⟩
theorem kw_X11_233 : q_wS RX11 233 yJ6_bitCount_0f7a4 cJ6_bitCount_0f7a4 1 (some .int) 1 := ⟨⟨wl_800, wl_801, wl_802, wl_803⟩, by decide, by decide, by decide +kernel⟩
theorem kw_X11_109 : q_wV RX11 RX8 109 yX8_add cX8_add 2 (some .boolean) 1 := ⟨q_goodV wl_161 wl_162 wl_163 wl_28 wl_164, rfl, by decide, by decide, by decide +kernel⟩
theorem kw_X11_121 : q_wV RX11 RX2 121 yX2_copyFrom cX2_copyFrom 3 none 1 := ⟨q_goodV wl_436 wl_195 wl_196 wl_32 wl_197, rfl, by decide, by decide, by decide +kernel⟩
theorem kw_X11_137 : q_wV RX11 RX2 137 yX2_cloudAt cX2_cloudAt 2 (some (.object "CloudLaundry$Cloud")) 1 := ⟨q_goodV wl_451 wl_296 wl_297 wl_32 wl_298, rfl, by decide, by decide, by decide +kernel⟩
theorem kw_X11_160 : q_wV RX11 RX2 160 yX2_washerOf cX2_washerOf 3 (some .int) 1 := ⟨q_goodV wl_466 wl_467 wl_468 wl_32 wl_469, rfl, by decide, by decide, by decide +kernel⟩
theorem kw_X11_167 : q_wV RX11 RX1 167 yX1_isClean cX1_isClean 1 (some .boolean) 0 := ⟨q_goodV wl_470 wl_471 wl_472 wl_85 wl_473, rfl, by decide, by decide, by decide +kernel⟩
theorem kw_X11_171 : q_wV RX11 RX1 171 yX1_isDry cX1_isDry 1 (some .boolean) 0 := ⟨q_goodV wl_478 wl_479 wl_480 wl_85 wl_481, rfl, by decide, by decide, by decide +kernel⟩
theorem kw_X11_177 : q_wV RX11 RX2 177 yX2_isWasher cX2_isWasher 2 (some .boolean) 1 := ⟨q_goodV wl_537 wl_538 wl_539 wl_32 wl_540, rfl, by decide, by decide, by decide +kernel⟩
theorem kw_X11_198 : q_wV RX11 RX11 198 yX11_remember cX11_remember 3 none 0 := ⟨q_goodV wl_599 wl_600 wl_601 wl_2 wl_602, rfl, by decide, by decide, by decide +kernel⟩
theorem kw_X11_201 : q_wV RX11 RX1 201 yX1_allDeep cX1_allDeep 3 (some .int) 0 := ⟨q_goodV wl_603 wl_475 wl_476 wl_85 wl_477, rfl, by decide, by decide, by decide +kernel⟩
theorem kw_X11_216 : q_wV RX11 RX2 216 yX2_passHour cX2_passHour 2 none 0 := ⟨q_goodV wl_654 wl_655 wl_656 wl_32 wl_657, rfl, by decide, by decide, by decide +kernel⟩
theorem kw_X11_219 : q_wV RX11 RX8 219 yX8_copyFrom cX8_copyFrom 2 none 1 := ⟨q_goodV wl_728 wl_729 wl_730 wl_28 wl_731, rfl, by decide, by decide, by decide +kernel⟩
theorem kw_X11_222 : q_wV RX11 RX1 222 yX1_hoursAs cX1_hoursAs 6 (some .int) 2 := ⟨q_goodV wl_749 wl_750 wl_751 wl_85 wl_752, rfl, by decide, by decide, by decide +kernel⟩
theorem kw_X11_226 : q_wV RX11 RX2 226 yX2_readAt cX2_readAt 4 (some .int) 1 := ⟨q_goodV wl_776 wl_777 wl_778 wl_32 wl_779, rfl, by decide, by decide, by decide +kernel⟩
theorem kw_X11_229 : q_wV RX11 RX11 229 yX11_readAhead cX11_readAhead 4 none 1 := ⟨q_goodV wl_796 wl_797 wl_798 wl_2 wl_799, rfl, by decide, by decide, by decide +kernel⟩
theorem kw_X11_238 : q_wV RX11 RX11 238 yX11_readFrom cX11_readFrom 4 (some .int) 1 := ⟨q_goodV wl_807 wl_808 wl_809 wl_2 wl_810, rfl, by decide, by decide, by decide +kernel⟩
theorem kw_X11_257 : q_wV RX11 RX11 257 yX11_agreesWithSeen cX11_agreesWithSeen 6 (some .boolean) 3 := ⟨q_goodV wl_920 wl_921 wl_922 wl_2 wl_923, rfl, by decide, by decide, by decide +kernel⟩
theorem kw_X11_272 : q_wV RX11 RX11 272 yX11_lineAt cX11_lineAt 2 (some (.object "CloudLaundry$Line")) 1 := ⟨q_goodV wl_961 wl_962 wl_963 wl_2 wl_964, rfl, by decide, by decide, by decide +kernel⟩
theorem kw_X11_276 : q_wV RX11 RX5 276 yX5_stretch cX5_stretch 3 none 2 := ⟨q_goodV wl_965 wl_966 wl_967 wl_58 wl_968, rfl, by decide, by decide, by decide +kernel⟩
theorem kw_X11_280 : q_wV RX11 RX5 280 yX5_hasPegs cX5_hasPegs 3 (some .boolean) 2 := ⟨q_goodV wl_985 wl_986 wl_987 wl_58 wl_988, rfl, by decide, by decide, by decide +kernel⟩
theorem kw_X11_284 : q_wV RX11 RX5 284 yX5_mayHold cX5_mayHold 2 (some .boolean) 1 := ⟨q_goodV wl_992 wl_993 wl_994 wl_58 wl_995, rfl, by decide, by decide, by decide +kernel⟩
theorem kw_X11_287 : q_wV RX11 RX5 287 yX5_put cX5_put 4 none 3 := ⟨q_goodV wl_996 wl_997 wl_998 wl_58 wl_999, rfl, by decide, by decide, by decide +kernel⟩
theorem kw_X11_297 : q_wV RX11 RX5 297 yX5_take cX5_take 4 none 3 := ⟨q_goodV wl_1023 wl_1024 wl_1025 wl_58 wl_1026, rfl, by decide, by decide, by decide +kernel⟩
theorem kw_X11_301 : q_wV RX11 RX5 301 yX5_heldPegs cX5_heldPegs 3 (some .int) 0 := ⟨q_goodV wl_1036 wl_1037 wl_1038 wl_58 wl_1039, rfl, by decide, by decide, by decide +kernel⟩
theorem kw_X11_311 : q_wV RX11 RX2 311 yX2_cloudsThatAre cX2_cloudsThatAre 4 (some .int) 1 := ⟨q_goodV wl_1058 wl_1059 wl_1060 wl_32 wl_1061, rfl, by decide, by decide, by decide +kernel⟩
theorem kw_X11_314 : q_wV RX11 RX11 314 yX11_linesThere cX11_linesThere 3 (some .int) 0 := ⟨q_goodV wl_1062 wl_1063 wl_1064 wl_2 wl_1065, rfl, by decide, by decide, by decide +kernel⟩
theorem kw_X11_320 : q_wV RX11 RX2 320 yX2_allWater cX2_allWater 4 (some .int) 0 := ⟨q_goodV wl_1066 wl_1067 wl_1068 wl_32 wl_1069, rfl, by decide, by decide, by decide +kernel⟩
set_option maxHeartbeats 4000000 in
set_option maxRecDepth 100000 in
theorem c_X11_remember (l : Launch) (G : q_G) (σ : q_S) (a0 : Nat) (h0 : q_T G a0 = 26)  : Met l yX11_remember (Cond.code yX11_remember cX11_remember 3 none :: wsL_law) (q_Rm 3) (q_Pre G σ [.ref a0]) (q_Qv G [5, 6, 7, 9, 10, 12, 26, 29] σ (fun σ1 => True)) 0 0 (q_N G) := by
  refine q_ofW (ts := [5, 6, 7, 9, 10, 12, 26, 29]) (by decide) (Nat.le_of_ble_eq_true rfl) ?_
  intro p e s m args below meth c hE hr hlocks hW ls hl
  have hE : q_E G p s m args c cX11_remember 3 RX11 := hE
  have hx := hE.1.1
  have hb := hE.1.2.1
  have hl : lv_has ls 3 [(0, .ref a0)] := hl
  have jn65a : ∀ (ks1 : q_S) (H : Heap) (locs : List Loc) (kx2 : Int32) (vkx2 : q_V 0 7 kx2) (ke3 : q_I ks1 a0 10 = kx2) (hW : q_Wd G [5, 6, 7, 9, 10, 12, 26, 29] σ s.heap ks1 H locs) (ls : Array Slot) (hl : lv_has ls 3 [(0, .ref a0)]), W p l e (q_Rm 3) s m args below meth c H locs 0 0 (MQ below (q_Qv G [5, 6, 7, 9, 10, 12, 26, 29] σ (fun σ1 => True)) args s 0 0 (q_N G)) (F0 m 65 ls []) := by
    intro ks1 H locs kx2 vkx2 ke3 hW ls hl
    refine lv_aload_n hx hb dX11_remember_65 rfl (lv_at hl 0 rfl) ?_
    refine q_getr hE hW h0 rfl q_k11 9 (by decide) rfl (hE.l wl_47) dX11_remember_66 (fun kb4 ekb4 hkb4a hkb4b => ?_)
    have hkb4 : q_T G kb4 = 29 := q_tag hkb4a hkb4b
    refine lv_aload_n hx hb dX11_remember_69 rfl (lv_at hl 0 rfl) ?_
    refine q_geti hE hW h0 rfl q_k11 10 (by decide) rfl (hE.l wl_435) dX11_remember_70 (fun kx5 ekx5 vkx5 => ?_)
    obtain rfl : kx2 = kx5 := ke3.symm.trans ekx5
    refine q_aald hE hW hkb4 rfl (q_in vkx2 (by decide) (by decide)) dX11_remember_73 (fun kb6 ekb6 hkb6a hkb6b => ?_)
    have hkb6 : q_T G kb6 = 7 := q_tag hkb6a hkb6b
    refine lv_aload_n hx hb dX11_remember_74 rfl (lv_at hl 0 rfl) ?_
    refine q_getr hE hW h0 rfl q_k11 5 (by decide) rfl (hE.l wl_35) dX11_remember_75 (fun kb7 ekb7 hkb7a hkb7b => ?_)
    have hkb7 : q_T G kb7 = 7 := q_tag hkb7a hkb7b
    refine q_gov hW (q_runV (As := [.ref kb7]) (rest := []) hE hW (c_X2_copyFrom l G ks1 kb6 hkb6 kb7 hkb7) kw_X11_121 (q_recv hE hW hkb6 rfl q_k2) rfl hl.1 rfl (Nat.le_of_ble_eq_true rfl) dX11_remember_78 ⟨by decide, by decide⟩ ⟨by decide, by decide⟩) (by decide) (fun ks9 H locs kp8 kf10 hW => ?_)
    refine lv_aload_n hx hb dX11_remember_81 rfl (lv_at hl 0 rfl) ?_
    refine lv_dup hx hb dX11_remember_82 rfl ?_
    refine q_geti hE hW h0 rfl q_k11 10 (by decide) rfl (hE.l wl_435) dX11_remember_83 (fun kx11 ekx11 vkx11 => ?_)
    obtain rfl : kx2 = kx11 := ((kf10.I _ h0 (by decide)).trans ke3).symm.trans ekx11
    refine lv_iconst (v := 1) hx hb dX11_remember_86 (by decide) ?_
    refine lv_iadd hx hb dX11_remember_87 ?_
    refine lv_topi (fun kx12 ekx12 => ?_)
    have vkx12 : q_V 1 8 kx12 := by rw [ekx12]; exact (q_add vkx2 (q_c (k := 1) (x := 1) (by decide)) (by decide) (by decide)).w (by decide) (by decide)
    have ikx12 : kx12.toInt = kx2.toInt + 1 := q_incT ekx12 vkx2 (by decide) (by decide) (by decide)
    refine q_puti hE hW h0 rfl q_k11 tyX11 tyX11_ok 10 (by decide) rfl (hE.l wl_435) rfl rfl rfl (vkx12.w (by decide) (by decide)) (by decide) dX11_remember_88 (fun H locs ks13 kp14 hW => ?_)
    exact q_retv hE hr hlocks hW (trivial) dX11_remember_91
  have lp25a : ∀ (n25a : Nat) (ks17 : q_S) (H : Heap) (locs : List Loc) (kb15 : Nat) (hkb15 : q_T G kb15 = 7) (kx16 : Int32) (vkx16 : q_V 1 8 kx16) (hW : q_Wd G [5, 6, 7, 9, 10, 12, 26, 29] σ s.heap ks17 H locs) (ls : Array Slot) (hl : lv_has ls 3 [(0, .ref a0), (1, .ref kb15), (2, .int kx16)]), (8 - kx16.toInt).toNat < n25a → W p l e (q_Rm 3) s m args below meth c H locs 0 0 (MQ below (q_Qv G [5, 6, 7, 9, 10, 12, 26, 29] σ (fun σ1 => True)) args s 0 0 (q_N G)) (F0 m 25 ls []) := by
    intro n25a
    induction n25a with
    | zero => intro _ _ _ _ _ _ _ _ _ _; exact fun h => absurd h (Nat.not_lt_zero _)
    | succ n25a ih25a =>
      intro ks17 H locs kb15 hkb15 kx16 vkx16 hW ls hl hm25a
      refine lv_iload_n hx hb dX11_remember_25 rfl (lv_at hl 2 rfl) ?_
      refine lv_bipush (v := 8) hx hb dX11_remember_26 (by decide) ?_
      refine lv_icmp_ge (tgt := 51) hx hb dX11_remember_28 (by decide) (fun kc18 => ?_) (fun kc18 => ?_)
      · have kv19 : q_V 8 8 kx16 := (q_le2 (q_c (k := 8) (x := 8) (by decide)) vkx16 kc18).w (by decide) (by decide)
        refine lv_aload_n hx hb dX11_remember_51 rfl (lv_at hl 0 rfl) ?_
        refine q_getr hE hW h0 rfl q_k11 9 (by decide) rfl (hE.l wl_47) dX11_remember_52 (fun kb20 ekb20 hkb20a hkb20b => ?_)
        have hkb20 : q_T G kb20 = 29 := q_tag hkb20a hkb20b
        refine lv_bipush (v := 7) hx hb dX11_remember_55 (by decide) ?_
        refine lv_aload_n hx hb dX11_remember_57 rfl (lv_at hl 1 rfl) ?_
        refine q_aast hE hW hkb20 rfl hkb15 rfl q_k2 rfl (by decide) (by decide) (q_in (q_c (k := 7) (x := 7) (by decide)) (by decide) (by decide)) (by decide) dX11_remember_58 (fun H locs ks21 kp22 hW => ?_)
        refine lv_aload_n hx hb dX11_remember_59 rfl (lv_at hl 0 rfl) ?_
        refine lv_bipush (v := 7) hx hb dX11_remember_60 (by decide) ?_
        refine q_puti hE hW h0 rfl q_k11 tyX11 tyX11_ok 10 (by decide) rfl (hE.l wl_435) rfl rfl rfl ((q_c (k := 7) (x := 7) (by decide)).w (by decide) (by decide)) (by decide) dX11_remember_62 (fun H locs ks23 kp24 hW => ?_)
        exact jn65a _ _ _ 7 ((q_c (k := 7) (x := 7) (by decide)).w (by decide) (by decide)) kp24.1 hW ls (lv_sub hl [0] rfl)
      · have kv25 : q_V 1 7 kx16 := (q_lt1 vkx16 (q_c (k := 8) (x := 8) (by decide)) (Int32.not_le.mp kc18)).w (by decide) (by decide)
        refine lv_aload_n hx hb dX11_remember_31 rfl (lv_at hl 0 rfl) ?_
        refine q_getr hE hW h0 rfl q_k11 9 (by decide) rfl (hE.l wl_47) dX11_remember_32 (fun kb26 ekb26 hkb26a hkb26b => ?_)
        have hkb26 : q_T G kb26 = 29 := q_tag hkb26a hkb26b
        refine lv_iload_n hx hb dX11_remember_35 rfl (lv_at hl 2 rfl) ?_
        refine lv_iconst (v := 1) hx hb dX11_remember_36 (by decide) ?_
        refine lv_isub hx hb dX11_remember_37 ?_
        refine lv_topi (fun kx27 ekx27 => ?_)
        have vkx27 : q_V 0 6 kx27 := by rw [ekx27]; exact (q_sub kv25 (q_c (k := 1) (x := 1) (by decide)) (by decide) (by decide)).w (by decide) (by decide)
        refine lv_aload_n hx hb dX11_remember_38 rfl (lv_at hl 0 rfl) ?_
        refine q_getr hE hW h0 rfl q_k11 9 (by decide) rfl (hE.l wl_47) dX11_remember_39 (fun kb28 ekb28 hkb28a hkb28b => ?_)
        obtain rfl : kb26 = kb28 := ekb26.symm.trans ekb28
        refine lv_iload_n hx hb dX11_remember_42 rfl (lv_at hl 2 rfl) ?_
        refine q_aald hE hW hkb26 rfl (q_in kv25 (by decide) (by decide)) dX11_remember_43 (fun kb29 ekb29 hkb29a hkb29b => ?_)
        have hkb29 : q_T G kb29 = 7 := q_tag hkb29a hkb29b
        refine q_aast hE hW hkb26 rfl hkb29 rfl q_k2 rfl (by decide) (by decide) (q_in vkx27 (by decide) (by decide)) (by decide) dX11_remember_44 (fun H locs ks30 kp31 hW => ?_)
        obtain ⟨kx32, ekx32⟩ : ∃ y : Int32, y = kx16 + 1 := ⟨_, rfl⟩
        have vkx32 : q_V 2 8 kx32 := by rw [ekx32]; exact (q_add kv25 (q_c (k := 1) (x := 1) (by decide)) (by decide) (by decide)).w (by decide) (by decide)
        have ikx32 : kx32.toInt = kx16.toInt + 1 := q_incT ekx32 kv25 (by decide) (by decide) (by decide)
        refine lv_iinc (v := kx32) (lv' := [(2, .int kx32), (0, .ref a0), (1, .ref kb15)]) hx hb dX11_remember_45 hl (k := 2) rfl (by rw [ekx32]; rfl) (by decide) rfl (fun ls hl => ?_)
        refine lv_goto (tgt := 25) hx hb dX11_remember_48 (by decide) ?_
        exact ih25a _ _ _ kb15 hkb15 kx32 (vkx32.w (by decide) (by decide)) hW ls (lv_sub hl [1, 2, 0] rfl) (Nat.lt_of_lt_of_le (q_up (ikx32) (show q_V 2 8 kx32 from vkx32).2) (Nat.le_of_lt_succ hm25a))
  have jn16a : ∀ (ks33 : q_S) (H : Heap) (locs : List Loc) (hW : q_Wd G [5, 6, 7, 9, 10, 12, 26, 29] σ s.heap ks33 H locs) (ls : Array Slot) (hl : lv_has ls 3 [(0, .ref a0)]), W p l e (q_Rm 3) s m args below meth c H locs 0 0 (MQ below (q_Qv G [5, 6, 7, 9, 10, 12, 26, 29] σ (fun σ1 => True)) args s 0 0 (q_N G)) (F0 m 16 ls []) := by
    intro ks33 H locs hW ls hl
    refine lv_aload_n hx hb dX11_remember_16 rfl (lv_at hl 0 rfl) ?_
    refine q_getr hE hW h0 rfl q_k11 9 (by decide) rfl (hE.l wl_47) dX11_remember_17 (fun kb34 ekb34 hkb34a hkb34b => ?_)
    have hkb34 : q_T G kb34 = 29 := q_tag hkb34a hkb34b
    refine lv_iconst (v := 0) hx hb dX11_remember_20 (by decide) ?_
    refine q_aald hE hW hkb34 rfl (q_in (q_c (k := 0) (x := 0) (by decide)) (by decide) (by decide)) dX11_remember_21 (fun kb35 ekb35 hkb35a hkb35b => ?_)
    have hkb35 : q_T G kb35 = 7 := q_tag hkb35a hkb35b
    refine lv_astore_n (lv' := [(1, .ref kb35), (0, .ref a0)]) hx hb dX11_remember_22 rfl hl (by decide) rfl (fun ls hl => ?_)
    refine lv_iconst (v := 1) hx hb dX11_remember_23 (by decide) ?_
    refine lv_istore_n (lv' := [(2, .int 1), (1, .ref kb35), (0, .ref a0)]) hx hb dX11_remember_24 rfl hl (by decide) rfl (fun ls hl => ?_)
    exact lp25a _ _ _ _ kb35 hkb35 1 ((q_c (k := 1) (x := 1) (by decide)).w (by decide) (by decide)) hW ls (lv_sub hl [2, 1, 0] rfl) (Nat.lt_succ_self _)
  refine lv_aload_n hx hb dX11_remember_0 rfl (lv_at hl 0 rfl) ?_
  refine q_geti hE hW h0 rfl q_k11 10 (by decide) rfl (hE.l wl_435) dX11_remember_1 (fun kx36 ekx36 vkx36 => ?_)
  refine lv_if_lt (tgt := 16) hx hb dX11_remember_4 (by decide) (fun kc37 => ?_) (fun kc37 => ?_)
  · have kv38 : q_V (-2147483648) (-1) kx36 := (q_lt1 (q_all kx36) (q_c (k := 0) (x := 0) (by decide)) kc37).w (by decide) (by decide)
    exact jn16a _ _ _ hW ls (lv_sub hl [0] rfl)
  · have kv39 : q_V 0 2147483647 kx36 := (q_le2 (q_c (k := 0) (x := 0) (by decide)) (q_all kx36) (Int32.not_lt.mp kc37)).w (by decide) (by decide)
    refine lv_aload_n hx hb dX11_remember_7 rfl (lv_at hl 0 rfl) ?_
    refine q_geti hE hW h0 rfl q_k11 10 (by decide) rfl (hE.l wl_435) dX11_remember_8 (fun kx40 ekx40 vkx40 => ?_)
    obtain rfl : kx36 = kx40 := ekx36.symm.trans ekx40
    refine lv_bipush (v := 8) hx hb dX11_remember_11 (by decide) ?_
    refine lv_icmp_lt (tgt := 65) hx hb dX11_remember_13 (by decide) (fun kc41 => ?_) (fun kc41 => ?_)
    · have kv42 : q_V 0 7 kx36 := (q_lt1 kv39 (q_c (k := 8) (x := 8) (by decide)) kc41).w (by decide) (by decide)
      exact jn65a _ _ _ kx36 kv42 ekx36 hW ls (lv_sub hl [0] rfl)
    · have kv43 : q_V 8 2147483647 kx36 := (q_le2 (q_c (k := 8) (x := 8) (by decide)) kv39 (Int32.not_lt.mp kc41)).w (by decide) (by decide)
      exact jn16a _ _ _ hW ls (lv_sub hl [0] rfl)
set_option maxHeartbeats 4000000 in
set_option maxRecDepth 100000 in
theorem c_X11_isOne (l : Launch) (G : q_G) (σ : q_S) (a1 : Nat) (h1a : (1 : Int) ≤ (q_T G a1 : Int))  (h1b : (q_T G a1 : Int) ≤ 4) (i2 : Int32)  : Met l yX11_isOne (Cond.code yX11_isOne cX11_isOne 2 (some .boolean) :: wsL_law) (q_Rm 1) (q_Pre G σ [.ref a1, .int i2]) (q_Qi G [] σ (fun r σ1 => q_V 0 1 r)) 0 0 (q_N G) := by
  refine q_ofW (ts := []) (by decide) (Nat.le_of_ble_eq_true rfl) ?_
  intro p e s m args below meth c hE hr hlocks hW ls hl
  have hE : q_E G p s m args c cX11_isOne 2 RX11 := hE
  have hx := hE.1.1
  have hb := hE.1.2.1
  have hl : lv_has ls 2 [(0, .ref a1), (1, .int i2)] := hl
  refine lv_iload_n hx hb dX11_isOne_0 rfl (lv_at hl 1 rfl) ?_
  rcases q_sw i2 0 4 with kc1 | kc1
  · refine lv_tableOut (tgt := 58) hx hb dX11_isOne_1 kc1 (by decide) ?_
    refine lv_iconst (v := 0) hx hb dX11_isOne_58 (by decide) ?_
    exact q_retz hE hr hlocks hW (Or.inl rfl) (((q_c (k := 0) (x := 0) (by decide)).w (by decide) (by decide))) dX11_isOne_59
  · obtain ⟨kc1a, kc1b⟩ := kc1
    by_cases kc1_0 : i2.toInt = 0
    · refine lv_tableIn (off := 35) (tgt := 36) hx hb dX11_isOne_1 (by rw [kc1_0]; decide) (by rw [kc1_0]; decide) (by rw [kc1_0]; rfl) (by decide) ?_
      have fkc1_0 : q_V 0 0 i2 := q_c kc1_0
      refine lv_iconst (v := 1) hx hb dX11_isOne_36 (by decide) ?_
      exact q_retz hE hr hlocks hW (Or.inr rfl) (((q_c (k := 1) (x := 1) (by decide)).w (by decide) (by decide))) dX11_isOne_37
    by_cases kc1_1 : i2.toInt = 1
    · refine lv_tableIn (off := 37) (tgt := 38) hx hb dX11_isOne_1 (by rw [kc1_1]; decide) (by rw [kc1_1]; decide) (by rw [kc1_1]; rfl) (by decide) ?_
      have fkc1_1 : q_V 1 1 i2 := q_c kc1_1
      refine lv_aload_n hx hb dX11_isOne_38 rfl (lv_at hl 0 rfl) ?_
      refine q_inst1 hE hW h1a h1b dX11_isOne_39 (fun kx2 vkx2 => ?_)
      exact q_retz hE hr hlocks hW (q_01 vkx2) (vkx2) dX11_isOne_42
    by_cases kc1_2 : i2.toInt = 2
    · refine lv_tableIn (off := 42) (tgt := 43) hx hb dX11_isOne_1 (by rw [kc1_2]; decide) (by rw [kc1_2]; decide) (by rw [kc1_2]; rfl) (by decide) ?_
      have fkc1_2 : q_V 2 2 i2 := q_c kc1_2
      refine lv_aload_n hx hb dX11_isOne_43 rfl (lv_at hl 0 rfl) ?_
      refine q_inst2 hE hW h1a h1b dX11_isOne_44 (fun kx3 vkx3 => ?_)
      exact q_retz hE hr hlocks hW (q_01 vkx3) (vkx3) dX11_isOne_47
    by_cases kc1_3 : i2.toInt = 3
    · refine lv_tableIn (off := 47) (tgt := 48) hx hb dX11_isOne_1 (by rw [kc1_3]; decide) (by rw [kc1_3]; decide) (by rw [kc1_3]; rfl) (by decide) ?_
      have fkc1_3 : q_V 3 3 i2 := q_c kc1_3
      refine lv_aload_n hx hb dX11_isOne_48 rfl (lv_at hl 0 rfl) ?_
      refine q_inst3 hE hW h1a h1b dX11_isOne_49 (fun kx4 vkx4 => ?_)
      exact q_retz hE hr hlocks hW (q_01 vkx4) (vkx4) dX11_isOne_52
    have kc1_4 : i2.toInt = 4 := by omega
    refine lv_tableIn (off := 52) (tgt := 53) hx hb dX11_isOne_1 (by rw [kc1_4]; decide) (by rw [kc1_4]; decide) (by rw [kc1_4]; rfl) (by decide) ?_
    have fkc1_4 : q_V 4 4 i2 := q_c kc1_4
    refine lv_aload_n hx hb dX11_isOne_53 rfl (lv_at hl 0 rfl) ?_
    refine q_inst4 hE hW h1a h1b dX11_isOne_54 (fun kx5 vkx5 => ?_)
    exact q_retz hE hr hlocks hW (q_01 vkx5) (vkx5) dX11_isOne_57
set_option maxHeartbeats 4000000 in
set_option maxRecDepth 100000 in
theorem c_X11_lineAt (l : Launch) (G : q_G) (σ : q_S) (a0 : Nat) (h0 : q_T G a0 = 26) (i1 : Int32)  : Met l yX11_lineAt (Cond.code yX11_lineAt cX11_lineAt 2 (some (.object "CloudLaundry$Line")) :: wsL_law) (q_Rm 1) (q_Pre G σ [.ref a0, .int i1]) (q_Qq G [] σ (fun r σ1 => (∀ b, r = some b → q_T G b = 23))) 0 0 (q_N G) := by
  refine q_ofW (ts := []) (by decide) (Nat.le_of_ble_eq_true rfl) ?_
  intro p e s m args below meth c hE hr hlocks hW ls hl
  have hE : q_E G p s m args c cX11_lineAt 2 RX11 := hE
  have hx := hE.1.1
  have hb := hE.1.2.1
  have hl : lv_has ls 2 [(0, .ref a0), (1, .int i1)] := hl
  refine lv_iload_n hx hb dX11_lineAt_0 rfl (lv_at hl 1 rfl) ?_
  refine lv_if_lt (tgt := 9) hx hb dX11_lineAt_1 (by decide) (fun kc1 => ?_) (fun kc1 => ?_)
  · have kv2 : q_V (-2147483648) (-1) i1 := (q_lt1 (q_all i1) (q_c (k := 0) (x := 0) (by decide)) kc1).w (by decide) (by decide)
    refine lv_null hx hb dX11_lineAt_9 ?_
    refine lv_goto (tgt := 19) hx hb dX11_lineAt_10 (by decide) ?_
    exact q_retq none hE hr hlocks hW ((fun _ h => by cases h)) dX11_lineAt_19
  · have kv3 : q_V 0 2147483647 i1 := (q_le2 (q_c (k := 0) (x := 0) (by decide)) (q_all i1) (Int32.not_lt.mp kc1)).w (by decide) (by decide)
    refine lv_iload_n hx hb dX11_lineAt_4 rfl (lv_at hl 1 rfl) ?_
    refine lv_iconst (v := 3) hx hb dX11_lineAt_5 (by decide) ?_
    refine lv_icmp_lt (tgt := 13) hx hb dX11_lineAt_6 (by decide) (fun kc4 => ?_) (fun kc4 => ?_)
    · have kv5 : q_V 0 2 i1 := (q_lt1 kv3 (q_c (k := 3) (x := 3) (by decide)) kc4).w (by decide) (by decide)
      refine lv_aload_n hx hb dX11_lineAt_13 rfl (lv_at hl 0 rfl) ?_
      refine q_getr hE hW h0 rfl q_k11 18 (by decide) rfl (hE.l wl_56) dX11_lineAt_14 (fun kb6 ekb6 hkb6a hkb6b => ?_)
      have hkb6 : q_T G kb6 = 36 := q_tag hkb6a hkb6b
      refine lv_iload_n hx hb dX11_lineAt_17 rfl (lv_at hl 1 rfl) ?_
      refine q_aald hE hW hkb6 rfl (q_in kv5 (by decide) (by decide)) dX11_lineAt_18 (fun kb7 ekb7 hkb7a hkb7b => ?_)
      have hkb7 : q_T G kb7 = 23 := q_tag hkb7a hkb7b
      exact q_retq (some kb7) hE hr hlocks hW ((fun _ h => by cases h; exact hkb7)) dX11_lineAt_19
    · have kv8 : q_V 3 2147483647 i1 := (q_le2 (q_c (k := 3) (x := 3) (by decide)) kv3 (Int32.not_lt.mp kc4)).w (by decide) (by decide)
      refine lv_null hx hb dX11_lineAt_9 ?_
      refine lv_goto (tgt := 19) hx hb dX11_lineAt_10 (by decide) ?_
      exact q_retq none hE hr hlocks hW ((fun _ h => by cases h)) dX11_lineAt_19
set_option maxHeartbeats 4000000 in
set_option maxRecDepth 100000 in
theorem c_X11_linesThere (l : Launch) (G : q_G) (σ : q_S) (a0 : Nat) (h0 : q_T G a0 = 26)  : Met l yX11_linesThere (Cond.code yX11_linesThere cX11_linesThere 3 (some .int) :: wsL_law) (q_Rm 1) (q_Pre G σ [.ref a0]) (q_Qi G [] σ (fun r σ1 => q_V (-2147483648) 2147483647 r)) 0 0 (q_N G) := by
  refine q_ofW (ts := []) (by decide) (Nat.le_of_ble_eq_true rfl) ?_
  intro p e s m args below meth c hE hr hlocks hW ls hl
  have hE : q_E G p s m args c cX11_linesThere 3 RX11 := hE
  have hx := hE.1.1
  have hb := hE.1.2.1
  have hl : lv_has ls 3 [(0, .ref a0)] := hl
  have lp4a : ∀ (n4a : Nat) (kx1 : Int32) (kx2 : Int32) (vkx2 : q_V 0 3 kx2) (ls : Array Slot) (hl : lv_has ls 3 [(0, .ref a0), (1, .int kx1), (2, .int kx2)]), (3 - kx2.toInt).toNat < n4a → W p l e (q_Rm 1) s m args below meth c s.heap [] 0 0 (MQ below (q_Qi G [] σ (fun r σ1 => q_V (-2147483648) 2147483647 r)) args s 0 0 (q_N G)) (F0 m 4 ls []) := by
    intro n4a
    induction n4a with
    | zero => intro _ _ _ _ _; exact fun h => absurd h (Nat.not_lt_zero _)
    | succ n4a ih4a =>
      intro kx1 kx2 vkx2 ls hl hm4a
      have jn27a : ∀ (kv3 : q_V 0 2 kx2) (kx4 : Int32) (kx5 : Int32) (vkx5 : q_V 0 1 kx5) (ls : Array Slot) (hl : lv_has ls 3 [(0, .ref a0), (2, .int kx2)]), W p l e (q_Rm 1) s m args below meth c s.heap [] 0 0 (MQ below (q_Qi G [] σ (fun r σ1 => q_V (-2147483648) 2147483647 r)) args s 0 0 (q_N G)) (F0 m 27 ls [.int kx5, .int kx4]) := by
        intro kv3 kx4 kx5 vkx5 ls hl
        refine lv_iadd hx hb dX11_linesThere_27 ?_
        refine lv_topi (fun kx6 ekx6 => ?_)
        refine lv_istore_n (lv' := [(1, .int kx6), (0, .ref a0), (2, .int kx2)]) hx hb dX11_linesThere_28 rfl hl (by decide) rfl (fun ls hl => ?_)
        obtain ⟨kx7, ekx7⟩ : ∃ y : Int32, y = kx2 + 1 := ⟨_, rfl⟩
        have vkx7 : q_V 1 3 kx7 := by rw [ekx7]; exact (q_add kv3 (q_c (k := 1) (x := 1) (by decide)) (by decide) (by decide)).w (by decide) (by decide)
        have ikx7 : kx7.toInt = kx2.toInt + 1 := q_incT ekx7 kv3 (by decide) (by decide) (by decide)
        refine lv_iinc (v := kx7) (lv' := [(2, .int kx7), (1, .int kx6), (0, .ref a0)]) hx hb dX11_linesThere_29 hl (k := 2) rfl (by rw [ekx7]; rfl) (by decide) rfl (fun ls hl => ?_)
        refine lv_goto (tgt := 4) hx hb dX11_linesThere_32 (by decide) ?_
        exact ih4a kx6 kx7 (vkx7.w (by decide) (by decide)) ls (lv_sub hl [2, 1, 0] rfl) (Nat.lt_of_lt_of_le (q_up (ikx7) (show q_V 1 3 kx7 from vkx7).2) (Nat.le_of_lt_succ hm4a))
      refine lv_iload_n hx hb dX11_linesThere_4 rfl (lv_at hl 2 rfl) ?_
      refine lv_iconst (v := 3) hx hb dX11_linesThere_5 (by decide) ?_
      refine lv_icmp_ge (tgt := 35) hx hb dX11_linesThere_6 (by decide) (fun kc8 => ?_) (fun kc8 => ?_)
      · have kv9 : q_V 3 3 kx2 := (q_le2 (q_c (k := 3) (x := 3) (by decide)) vkx2 kc8).w (by decide) (by decide)
        refine lv_iload_n hx hb dX11_linesThere_35 rfl (lv_at hl 1 rfl) ?_
        exact q_reti hE hr hlocks hW ((q_all kx1)) dX11_linesThere_36
      · have kv10 : q_V 0 2 kx2 := (q_lt1 vkx2 (q_c (k := 3) (x := 3) (by decide)) (Int32.not_le.mp kc8)).w (by decide) (by decide)
        refine lv_iload_n hx hb dX11_linesThere_9 rfl (lv_at hl 1 rfl) ?_
        refine lv_aload_n hx hb dX11_linesThere_10 rfl (lv_at hl 0 rfl) ?_
        refine q_getr hE hW h0 rfl q_k11 18 (by decide) rfl (hE.l wl_56) dX11_linesThere_11 (fun kb11 ekb11 hkb11a hkb11b => ?_)
        have hkb11 : q_T G kb11 = 36 := q_tag hkb11a hkb11b
        refine lv_iload_n hx hb dX11_linesThere_14 rfl (lv_at hl 2 rfl) ?_
        refine q_aald hE hW hkb11 rfl (q_in kv10 (by decide) (by decide)) dX11_linesThere_15 (fun kb12 ekb12 hkb12a hkb12b => ?_)
        have hkb12 : q_T G kb12 = 23 := q_tag hkb12a hkb12b
        refine q_geti hE hW hkb12 rfl q_k5 0 (by decide) rfl (hE.n 37 rfl) dX11_linesThere_16 (fun kx13 ekx13 vkx13 => ?_)
        refine lv_if_eq (tgt := 26) hx hb dX11_linesThere_19 (by decide) (fun kc14 => ?_) (fun kc14 => ?_)
        · have kv15 : q_V 0 0 kx13 := q_eq1 vkx13 (q_c (k := 0) (x := 0) (by decide)) kc14 (by decide) (by decide)
          refine lv_iconst (v := 0) hx hb dX11_linesThere_26 (by decide) ?_
          exact jn27a kv10 kx1 0 ((q_c (k := 0) (x := 0) (by decide)).w (by decide) (by decide)) ls (lv_sub hl [0, 2] rfl)
        · have kv16 : q_V 1 1 kx13 := q_ne1 vkx13 (q_c (k := 0) (x := 0) (by decide)) kc14 (by decide)
          refine lv_iconst (v := 1) hx hb dX11_linesThere_22 (by decide) ?_
          refine lv_goto (tgt := 27) hx hb dX11_linesThere_23 (by decide) ?_
          exact jn27a kv10 kx1 1 ((q_c (k := 1) (x := 1) (by decide)).w (by decide) (by decide)) ls (lv_sub hl [0, 2] rfl)
  refine lv_iconst (v := 0) hx hb dX11_linesThere_0 (by decide) ?_
  refine lv_istore_n (lv' := [(1, .int 0), (0, .ref a0)]) hx hb dX11_linesThere_1 rfl hl (by decide) rfl (fun ls hl => ?_)
  refine lv_iconst (v := 0) hx hb dX11_linesThere_2 (by decide) ?_
  refine lv_istore_n (lv' := [(2, .int 0), (1, .int 0), (0, .ref a0)]) hx hb dX11_linesThere_3 rfl hl (by decide) rfl (fun ls hl => ?_)
  exact lp4a _ 0 0 ((q_c (k := 0) (x := 0) (by decide)).w (by decide) (by decide)) ls (lv_sub hl [2, 1, 0] rfl) (Nat.lt_succ_self _)
set_option maxHeartbeats 4000000 in
set_option maxRecDepth 100000 in
theorem c_X11_readFrom (l : Launch) (G : q_G) (σ : q_S) (a0 : Nat) (h0 : q_T G a0 = 26) (i1 : Int32)  : Met l yX11_readFrom (Cond.code yX11_readFrom cX11_readFrom 4 (some .int) :: wsL_law) (q_Rm 1) (q_Pre G σ [.ref a0, .int i1]) (q_Qi G [] σ (fun r σ1 => q_V (-2147483648) 2147483647 r)) 0 0 (q_N G) := by
  refine q_ofW (ts := []) (by decide) (Nat.le_of_ble_eq_true rfl) ?_
  intro p e s m args below meth c hE hr hlocks hW ls hl
  have hE : q_E G p s m args c cX11_readFrom 4 RX11 := hE
  have hx := hE.1.1
  have hb := hE.1.2.1
  have hl : lv_has ls 4 [(0, .ref a0), (1, .int i1)] := hl
  have lp4a : ∀ (n4a : Nat) (kx1 : Int32) (kx2 : Int32) (vkx2 : q_V 0 7 kx2) (ls : Array Slot) (hl : lv_has ls 4 [(0, .ref a0), (1, .int i1), (2, .int kx1), (3, .int kx2)]), (7 - kx2.toInt).toNat < n4a → W p l e (q_Rm 1) s m args below meth c s.heap [] 0 0 (MQ below (q_Qi G [] σ (fun r σ1 => q_V (-2147483648) 2147483647 r)) args s 0 0 (q_N G)) (F0 m 4 ls []) := by
    intro n4a
    induction n4a with
    | zero => intro _ _ _ _ _; exact fun h => absurd h (Nat.not_lt_zero _)
    | succ n4a ih4a =>
      intro kx1 kx2 vkx2 ls hl hm4a
      have jn28a : ∀ (kx3 : Int32) (kv4 : q_V 0 6 kx2) (ls : Array Slot) (hl : lv_has ls 4 [(0, .ref a0), (1, .int i1), (2, .int kx3), (3, .int kx2)]), W p l e (q_Rm 1) s m args below meth c s.heap [] 0 0 (MQ below (q_Qi G [] σ (fun r σ1 => q_V (-2147483648) 2147483647 r)) args s 0 0 (q_N G)) (F0 m 28 ls []) := by
        intro kx3 kv4 ls hl
        obtain ⟨kx5, ekx5⟩ : ∃ y : Int32, y = kx2 + 1 := ⟨_, rfl⟩
        have vkx5 : q_V 1 7 kx5 := by rw [ekx5]; exact (q_add kv4 (q_c (k := 1) (x := 1) (by decide)) (by decide) (by decide)).w (by decide) (by decide)
        have ikx5 : kx5.toInt = kx2.toInt + 1 := q_incT ekx5 kv4 (by decide) (by decide) (by decide)
        refine lv_iinc (v := kx5) (lv' := [(3, .int kx5), (0, .ref a0), (1, .int i1), (2, .int kx3)]) hx hb dX11_readFrom_28 hl (k := 3) rfl (by rw [ekx5]; rfl) (by decide) rfl (fun ls hl => ?_)
        refine lv_goto (tgt := 4) hx hb dX11_readFrom_31 (by decide) ?_
        exact ih4a kx3 kx5 (vkx5.w (by decide) (by decide)) ls (lv_sub hl [1, 2, 3, 0] rfl) (Nat.lt_of_lt_of_le (q_up (ikx5) (show q_V 1 7 kx5 from vkx5).2) (Nat.le_of_lt_succ hm4a))
      refine lv_iload_n hx hb dX11_readFrom_4 rfl (lv_at hl 3 rfl) ?_
      refine lv_bipush (v := 7) hx hb dX11_readFrom_5 (by decide) ?_
      refine lv_icmp_ge (tgt := 34) hx hb dX11_readFrom_7 (by decide) (fun kc6 => ?_) (fun kc6 => ?_)
      · have kv7 : q_V 7 7 kx2 := (q_le2 (q_c (k := 7) (x := 7) (by decide)) vkx2 kc6).w (by decide) (by decide)
        refine lv_iload_n hx hb dX11_readFrom_34 rfl (lv_at hl 2 rfl) ?_
        exact q_reti hE hr hlocks hW ((q_all kx1)) dX11_readFrom_35
      · have kv8 : q_V 0 6 kx2 := (q_lt1 vkx2 (q_c (k := 7) (x := 7) (by decide)) (Int32.not_le.mp kc6)).w (by decide) (by decide)
        refine lv_iload_n hx hb dX11_readFrom_10 rfl (lv_at hl 1 rfl) ?_
        refine lv_iload_n hx hb dX11_readFrom_11 rfl (lv_at hl 3 rfl) ?_
        refine lv_ishr hx hb dX11_readFrom_12 ?_
        refine lv_topi (fun kx9 ekx9 => ?_)
        refine lv_iconst (v := 1) hx hb dX11_readFrom_13 (by decide) ?_
        refine lv_iand hx hb dX11_readFrom_14 ?_
        refine lv_topi (fun kx10 ekx10 => ?_)
        have vkx10 : q_V 0 1 kx10 := by rw [ekx10]; exact (q_and1 kx9).w (by decide) (by decide)
        refine lv_iconst (v := 1) hx hb dX11_readFrom_15 (by decide) ?_
        refine lv_icmp_ne (tgt := 28) hx hb dX11_readFrom_16 (by decide) (fun kc11 => ?_) (fun kc11 => ?_)
        · have kv12 : q_V 0 0 kx10 := q_ne2 vkx10 (q_c (k := 1) (x := 1) (by decide)) kc11 (by decide)
          exact jn28a kx1 kv8 ls (lv_sub hl [0, 1, 2, 3] rfl)
        · have kv13 : q_V 1 1 kx10 := q_eq1 vkx10 (q_c (k := 1) (x := 1) (by decide)) kc11 (by decide) (by decide)
          refine lv_iload_n hx hb dX11_readFrom_19 rfl (lv_at hl 2 rfl) ?_
          refine lv_aload_n hx hb dX11_readFrom_20 rfl (lv_at hl 0 rfl) ?_
          refine q_getr hE hW h0 rfl q_k11 8 (by decide) rfl (hE.l wl_46) dX11_readFrom_21 (fun kb14 ekb14 hkb14a hkb14b => ?_)
          have hkb14 : q_T G kb14 = 28 := q_tag hkb14a hkb14b
          refine lv_iload_n hx hb dX11_readFrom_24 rfl (lv_at hl 3 rfl) ?_
          refine q_iald hE hW hkb14 rfl (q_in kv8 (by decide) (by decide)) dX11_readFrom_25 (fun kx15 ekx15 gkx15 => ?_)
          refine lv_ior hx hb dX11_readFrom_26 ?_
          refine lv_topi (fun kx16 ekx16 => ?_)
          refine lv_istore_n (lv' := [(2, .int kx16), (0, .ref a0), (1, .int i1), (3, .int kx2)]) hx hb dX11_readFrom_27 rfl hl (by decide) rfl (fun ls hl => ?_)
          exact jn28a kx16 kv8 ls (lv_sub hl [1, 2, 0, 3] rfl)
  refine lv_iconst (v := 0) hx hb dX11_readFrom_0 (by decide) ?_
  refine lv_istore_n (lv' := [(2, .int 0), (0, .ref a0), (1, .int i1)]) hx hb dX11_readFrom_1 rfl hl (by decide) rfl (fun ls hl => ?_)
  refine lv_iconst (v := 0) hx hb dX11_readFrom_2 (by decide) ?_
  refine lv_istore_n (lv' := [(3, .int 0), (2, .int 0), (0, .ref a0), (1, .int i1)]) hx hb dX11_readFrom_3 rfl hl (by decide) rfl (fun ls hl => ?_)
  exact lp4a _ 0 0 ((q_c (k := 0) (x := 0) (by decide)).w (by decide) (by decide)) ls (lv_sub hl [2, 3, 1, 0] rfl) (Nat.lt_succ_self _)
set_option maxHeartbeats 4000000 in
set_option maxRecDepth 100000 in
theorem c_X11_write (l : Launch) (G : q_G) (σ : q_S) (a0 : Nat) (h0 : q_T G a0 = 26) (i1 : Int32)  : Met l yX11_write (Cond.code yX11_write cX11_write 2 (some .int) :: wsL_law) (q_Rm 2) (q_Pre G σ [.ref a0, .int i1]) (q_Qi G [13, 14] σ (fun r σ1 => q_V (-2147483648) 2147483647 r)) 0 0 (q_N G) := by
  refine q_ofW (ts := [13, 14]) (by decide) (Nat.le_of_ble_eq_true rfl) ?_
  intro p e s m args below meth c hE hr hlocks hW ls hl
  have hE : q_E G p s m args c cX11_write 2 RX11 := hE
  have hx := hE.1.1
  have hb := hE.1.2.1
  have hl : lv_has ls 2 [(0, .ref a0), (1, .int i1)] := hl
  refine lv_iload_n hx hb dX11_write_0 rfl (lv_at hl 1 rfl) ?_
  refine lv_if_lt (tgt := 11) hx hb dX11_write_1 (by decide) (fun kc1 => ?_) (fun kc1 => ?_)
  · have kv2 : q_V (-2147483648) (-1) i1 := (q_lt1 (q_all i1) (q_c (k := 0) (x := 0) (by decide)) kc1).w (by decide) (by decide)
    refine lv_bipush (v := (-3)) hx hb dX11_write_11 (by decide) ?_
    exact q_reti hE hr hlocks hW (((q_c (k := (-3)) (x := (-3)) (by decide)).w (by decide) (by decide))) dX11_write_13
  · have kv3 : q_V 0 2147483647 i1 := (q_le2 (q_c (k := 0) (x := 0) (by decide)) (q_all i1) (Int32.not_lt.mp kc1)).w (by decide) (by decide)
    refine lv_iload_n hx hb dX11_write_4 rfl (lv_at hl 1 rfl) ?_
    refine lv_sipush (v := 255) hx hb dX11_write_5 (by decide) ?_
    refine lv_icmp_le (tgt := 14) hx hb dX11_write_8 (by decide) (fun kc4 => ?_) (fun kc4 => ?_)
    · have kv5 : q_V 0 255 i1 := (q_le1 kv3 (q_c (k := 255) (x := 255) (by decide)) kc4).w (by decide) (by decide)
      refine lv_aload_n hx hb dX11_write_14 rfl (lv_at hl 0 rfl) ?_
      refine q_getr hE hW h0 rfl q_k11 1 (by decide) rfl (hE.l wl_29) dX11_write_15 (fun kb6 ekb6 hkb6a hkb6b => ?_)
      have hkb6 : q_T G kb6 = 13 := q_tag hkb6a hkb6b
      refine lv_iload_n hx hb dX11_write_18 rfl (lv_at hl 1 rfl) ?_
      refine lv_i2c hx hb dX11_write_19 rfl ?_
      refine lv_topi (fun kx7 ekx7 => ?_)
      have vkx7 : q_V 0 65535 kx7 := by rw [ekx7]; exact q_i2c i1
      refine q_goi hW (q_runV (As := [.int kx7]) (rest := []) hE hW (c_X8_add l G σ kb6 hkb6 kx7 vkx7) kw_X11_109 (q_recv hE hW hkb6 rfl q_k8) rfl hl.1 rfl (Nat.le_of_ble_eq_true rfl) dX11_write_20 ⟨by decide, by decide⟩ ⟨by decide, by decide⟩) (by decide) (fun kx11 ks9 H locs kp8 kf10 hW => ?_)
      refine lv_if_eq (tgt := 36) hx hb dX11_write_23 (by decide) (fun kc12 => ?_) (fun kc12 => ?_)
      · have kv13 : q_V 0 0 kx11 := q_eq1 kp8 (q_c (k := 0) (x := 0) (by decide)) kc12 (by decide) (by decide)
        refine lv_bipush (v := (-5)) hx hb dX11_write_36 (by decide) ?_
        exact q_reti hE hr hlocks hW (((q_c (k := (-5)) (x := (-5)) (by decide)).w (by decide) (by decide))) dX11_write_38
      · have kv14 : q_V 1 1 kx11 := q_ne1 kp8 (q_c (k := 0) (x := 0) (by decide)) kc12 (by decide)
        refine lv_aload_n hx hb dX11_write_26 rfl (lv_at hl 0 rfl) ?_
        refine q_getr hE hW h0 rfl q_k11 1 (by decide) rfl (hE.l wl_29) dX11_write_27 (fun kb15 ekb15 hkb15a hkb15b => ?_)
        obtain rfl : kb6 = kb15 := ((kf10.R _ h0 (by decide)).trans ekb6).symm.trans ekb15
        refine q_geti hE hW hkb6 rfl q_k8 1 (by decide) rfl (hE.n 0 rfl) dX11_write_30 (fun kx16 ekx16 vkx16 => ?_)
        refine lv_goto (tgt := 38) hx hb dX11_write_33 (by decide) ?_
        exact q_reti hE hr hlocks hW ((q_all kx16)) dX11_write_38
    · have kv17 : q_V 256 2147483647 i1 := (q_lt2 (q_c (k := 255) (x := 255) (by decide)) kv3 (Int32.not_le.mp kc4)).w (by decide) (by decide)
      refine lv_bipush (v := (-3)) hx hb dX11_write_11 (by decide) ?_
      exact q_reti hE hr hlocks hW (((q_c (k := (-3)) (x := (-3)) (by decide)).w (by decide) (by decide))) dX11_write_13
set_option maxHeartbeats 4000000 in
set_option maxRecDepth 100000 in
theorem c_X11_erase (l : Launch) (G : q_G) (σ : q_S) (a0 : Nat) (h0 : q_T G a0 = 26)  : Met l yX11_erase (Cond.code yX11_erase cX11_erase 2 (some .int) :: wsL_law) (q_Rm 1) (q_Pre G σ [.ref a0]) (q_Qi G [13] σ (fun r σ1 => q_V (-2147483648) 2147483647 r)) 0 0 (q_N G) := by
  refine q_ofW (ts := [13]) (by decide) (Nat.le_of_ble_eq_true rfl) ?_
  intro p e s m args below meth c hE hr hlocks hW ls hl
  have hE : q_E G p s m args c cX11_erase 2 RX11 := hE
  have hx := hE.1.1
  have hb := hE.1.2.1
  have hl : lv_has ls 2 [(0, .ref a0)] := hl
  refine lv_aload_n hx hb dX11_erase_0 rfl (lv_at hl 0 rfl) ?_
  refine q_getr hE hW h0 rfl q_k11 1 (by decide) rfl (hE.l wl_29) dX11_erase_1 (fun kb1 ekb1 hkb1a hkb1b => ?_)
  have hkb1 : q_T G kb1 = 13 := q_tag hkb1a hkb1b
  refine q_geti hE hW hkb1 rfl q_k8 1 (by decide) rfl (hE.n 0 rfl) dX11_erase_4 (fun kx2 ekx2 vkx2 => ?_)
  refine lv_istore_n (lv' := [(1, .int kx2), (0, .ref a0)]) hx hb dX11_erase_7 rfl hl (by decide) rfl (fun ls hl => ?_)
  refine lv_aload_n hx hb dX11_erase_8 rfl (lv_at hl 1 rfl) ?_
  refine q_getr hE hW h0 rfl q_k11 1 (by decide) rfl (hE.l wl_29) dX11_erase_9 (fun kb3 ekb3 hkb3a hkb3b => ?_)
  obtain rfl : kb1 = kb3 := ekb1.symm.trans ekb3
  refine lv_iconst (v := 0) hx hb dX11_erase_12 (by decide) ?_
  refine q_puti hE hW hkb1 rfl q_k8 tyX8 tyX8_ok 1 (by decide) rfl (hE.n 0 rfl) rfl rfl rfl ((q_c (k := 0) (x := 0) (by decide)).w (by decide) (by decide)) (by decide) dX11_erase_13 (fun H locs ks4 kp5 hW => ?_)
  refine lv_iload_n hx hb dX11_erase_16 rfl (lv_at hl 0 rfl) ?_
  exact q_reti hE hr hlocks hW ((q_all kx2)) dX11_erase_17
set_option maxHeartbeats 4000000 in
set_option maxRecDepth 100000 in
theorem c_X11_cloud (l : Launch) (G : q_G) (σ : q_S) (a0 : Nat) (h0 : q_T G a0 = 26) (i1 : Int32) (i2 : Int32)  : Met l yX11_cloud (Cond.code yX11_cloud cX11_cloud 4 (some .int) :: wsL_law) (q_Rm 4) (q_Pre G σ [.ref a0, .int i1, .int i2]) (q_Qi G [] σ (fun r σ1 => q_V (-2147483648) 2147483647 r)) 0 0 (q_N G) := by
  refine q_ofW (ts := []) (by decide) (Nat.le_of_ble_eq_true rfl) ?_
  intro p e s m args below meth c hE hr hlocks hW ls hl
  have hE : q_E G p s m args c cX11_cloud 4 RX11 := hE
  have hx := hE.1.1
  have hb := hE.1.2.1
  have hl : lv_has ls 4 [(0, .ref a0), (1, .int i1), (2, .int i2)] := hl
  refine lv_aload_n hx hb dX11_cloud_0 rfl (lv_at hl 0 rfl) ?_
  refine q_getr hE hW h0 rfl q_k11 5 (by decide) rfl (hE.l wl_35) dX11_cloud_1 (fun kb1 ekb1 hkb1a hkb1b => ?_)
  have hkb1 : q_T G kb1 = 7 := q_tag hkb1a hkb1b
  refine lv_iload_n hx hb dX11_cloud_4 rfl (lv_at hl 1 rfl) ?_
  refine q_goq hW (q_runV (As := [.int i1]) (rest := []) hE hW (c_X2_cloudAt l G σ kb1 hkb1 i1) kw_X11_137 (q_recv hE hW hkb1 rfl q_k2) rfl hl.1 rfl (Nat.le_of_ble_eq_true rfl) dX11_cloud_5 ⟨by decide, by decide⟩ ⟨by decide, by decide⟩) (by decide) (fun ks3 H locs kp2 kf4 hW => ?_) (fun kb5 ks3 H locs kp2 kf4 hW => ?_)
  · refine lv_astore_nN (lv' := [(3, .null), (0, .ref a0), (1, .int i1), (2, .int i2)]) hx hb dX11_cloud_8 rfl hl (by decide) rfl (fun ls hl => ?_)
    refine lv_aload_nN hx hb dX11_cloud_9 rfl (lv_at hl 0 rfl) ?_
    refine lv_ifnonnullN hx hb dX11_cloud_10 ?_
    refine lv_bipush (v := (-2)) hx hb dX11_cloud_13 (by decide) ?_
    exact q_reti hE hr hlocks hW (((q_c (k := (-2)) (x := (-2)) (by decide)).w (by decide) (by decide))) dX11_cloud_15
  · have hkb5 : q_T G kb5 = 5 := kp2 kb5 rfl
    refine lv_astore_n (lv' := [(3, .ref kb5), (0, .ref a0), (1, .int i1), (2, .int i2)]) hx hb dX11_cloud_8 rfl hl (by decide) rfl (fun ls hl => ?_)
    refine lv_aload_n hx hb dX11_cloud_9 rfl (lv_at hl 0 rfl) ?_
    refine lv_ifnonnull hx hb dX11_cloud_10 (tgt := 16) (by decide) ?_
    refine lv_iload_n hx hb dX11_cloud_16 rfl (lv_at hl 3 rfl) ?_
    rcases q_sw i2 0 7 with kc6 | kc6
    · refine lv_tableOut (tgt := 127) hx hb dX11_cloud_17 kc6 (by decide) ?_
      refine lv_bipush (v := (-3)) hx hb dX11_cloud_127 (by decide) ?_
      exact q_reti hE hr hlocks hW (((q_c (k := (-3)) (x := (-3)) (by decide)).w (by decide) (by decide))) dX11_cloud_129
    · obtain ⟨kc6a, kc6b⟩ := kc6
      by_cases kc6_0 : i2.toInt = 0
      · refine lv_tableIn (off := 47) (tgt := 64) hx hb dX11_cloud_17 (by rw [kc6_0]; decide) (by rw [kc6_0]; decide) (by rw [kc6_0]; rfl) (by decide) ?_
        have fkc6_0 : q_V 0 0 i2 := q_c kc6_0
        refine lv_aload_n hx hb dX11_cloud_64 rfl (lv_at hl 0 rfl) ?_
        refine q_getr hE hW hkb5 rfl q_k1 0 (by decide) rfl (hE.n 3 rfl) dX11_cloud_65 (fun kb7 ekb7 hkb7a hkb7b => ?_)
        refine q_goi hW (kd_X11_147 l (rest := []) hE hW hkb7a hkb7b hl.1 rfl (Nat.le_of_ble_eq_true rfl) dX11_cloud_68 ⟨by decide, by decide⟩ ⟨by decide, by decide⟩) (by decide) (fun kx11 ks9 H locs kp8 kf10 hW => ?_)
        exact q_reti hE hr hlocks hW ((q_all kx11)) dX11_cloud_71
      by_cases kc6_1 : i2.toInt = 1
      · refine lv_tableIn (off := 55) (tgt := 72) hx hb dX11_cloud_17 (by rw [kc6_1]; decide) (by rw [kc6_1]; decide) (by rw [kc6_1]; rfl) (by decide) ?_
        have fkc6_1 : q_V 1 1 i2 := q_c kc6_1
        refine lv_aload_n hx hb dX11_cloud_72 rfl (lv_at hl 0 rfl) ?_
        refine q_geti hE hW hkb5 rfl q_k1 1 (by decide) rfl (hE.n 5 rfl) dX11_cloud_73 (fun kx12 ekx12 vkx12 => ?_)
        exact q_reti hE hr hlocks hW ((q_all kx12)) dX11_cloud_76
      by_cases kc6_2 : i2.toInt = 2
      · refine lv_tableIn (off := 60) (tgt := 77) hx hb dX11_cloud_17 (by rw [kc6_2]; decide) (by rw [kc6_2]; decide) (by rw [kc6_2]; rfl) (by decide) ?_
        have fkc6_2 : q_V 2 2 i2 := q_c kc6_2
        refine lv_aload_n hx hb dX11_cloud_77 rfl (lv_at hl 0 rfl) ?_
        refine q_geti hE hW hkb5 rfl q_k1 2 (by decide) rfl (hE.n 8 rfl) dX11_cloud_78 (fun kx13 ekx13 vkx13 => ?_)
        exact q_reti hE hr hlocks hW ((q_all kx13)) dX11_cloud_81
      by_cases kc6_3 : i2.toInt = 3
      · refine lv_tableIn (off := 65) (tgt := 82) hx hb dX11_cloud_17 (by rw [kc6_3]; decide) (by rw [kc6_3]; decide) (by rw [kc6_3]; rfl) (by decide) ?_
        have fkc6_3 : q_V 3 3 i2 := q_c kc6_3
        refine lv_aload_n hx hb dX11_cloud_82 rfl (lv_at hl 0 rfl) ?_
        refine q_geti hE hW hkb5 rfl q_k1 3 (by decide) rfl (hE.n 9 rfl) dX11_cloud_83 (fun kx14 ekx14 vkx14 => ?_)
        exact q_reti hE hr hlocks hW ((q_all kx14)) dX11_cloud_86
      by_cases kc6_4 : i2.toInt = 4
      · refine lv_tableIn (off := 70) (tgt := 87) hx hb dX11_cloud_17 (by rw [kc6_4]; decide) (by rw [kc6_4]; decide) (by rw [kc6_4]; rfl) (by decide) ?_
        have fkc6_4 : q_V 4 4 i2 := q_c kc6_4
        refine lv_aload_n hx hb dX11_cloud_87 rfl (lv_at hl 1 rfl) ?_
        refine q_getr hE hW h0 rfl q_k11 5 (by decide) rfl (hE.l wl_35) dX11_cloud_88 (fun kb15 ekb15 hkb15a hkb15b => ?_)
        obtain rfl : kb1 = kb15 := ((kf4.R _ h0 (by decide)).trans ekb1).symm.trans ekb15
        refine lv_iload_n hx hb dX11_cloud_91 rfl (lv_at hl 2 rfl) ?_
        refine q_goi hW (q_runV (As := [.int i1]) (rest := []) hE hW (c_X2_washerOf l G ks3 kb1 hkb1 i1) kw_X11_160 (q_recv hE hW hkb1 rfl q_k2) rfl hl.1 rfl (Nat.le_of_ble_eq_true rfl) dX11_cloud_92 ⟨by decide, by decide⟩ ⟨by decide, by decide⟩) (by decide) (fun kx19 ks17 H locs kp16 kf18 hW => ?_)
        exact q_reti hE hr hlocks hW ((kp16.w (by decide) (by decide))) dX11_cloud_95
      by_cases kc6_5 : i2.toInt = 5
      · refine lv_tableIn (off := 79) (tgt := 96) hx hb dX11_cloud_17 (by rw [kc6_5]; decide) (by rw [kc6_5]; decide) (by rw [kc6_5]; rfl) (by decide) ?_
        have fkc6_5 : q_V 5 5 i2 := q_c kc6_5
        refine lv_aload_n hx hb dX11_cloud_96 rfl (lv_at hl 0 rfl) ?_
        refine q_geti hE hW hkb5 rfl q_k1 4 (by decide) rfl (hE.n 12 rfl) dX11_cloud_97 (fun kx20 ekx20 vkx20 => ?_)
        exact q_reti hE hr hlocks hW ((q_all kx20)) dX11_cloud_100
      by_cases kc6_6 : i2.toInt = 6
      · refine lv_tableIn (off := 84) (tgt := 101) hx hb dX11_cloud_17 (by rw [kc6_6]; decide) (by rw [kc6_6]; decide) (by rw [kc6_6]; rfl) (by decide) ?_
        have fkc6_6 : q_V 6 6 i2 := q_c kc6_6
        refine lv_aload_n hx hb dX11_cloud_101 rfl (lv_at hl 0 rfl) ?_
        refine q_goi hW (q_runV (As := []) (rest := []) hE hW (c_X1_isClean l G ks3 kb5 hkb5) kw_X11_167 (q_recv hE hW hkb5 rfl q_k1) rfl hl.1 rfl (Nat.le_of_ble_eq_true rfl) dX11_cloud_102 ⟨by decide, by decide⟩ ⟨by decide, by decide⟩) (by decide) (fun kx24 ks22 H locs kp21 kf23 hW => ?_)
        refine lv_if_eq (tgt := 112) hx hb dX11_cloud_105 (by decide) (fun kc25 => ?_) (fun kc25 => ?_)
        · have kv26 : q_V 0 0 kx24 := q_eq1 kp21 (q_c (k := 0) (x := 0) (by decide)) kc25 (by decide) (by decide)
          refine lv_iconst (v := 0) hx hb dX11_cloud_112 (by decide) ?_
          exact q_reti hE hr hlocks hW (((q_c (k := 0) (x := 0) (by decide)).w (by decide) (by decide))) dX11_cloud_113
        · have kv27 : q_V 1 1 kx24 := q_ne1 kp21 (q_c (k := 0) (x := 0) (by decide)) kc25 (by decide)
          refine lv_iconst (v := 1) hx hb dX11_cloud_108 (by decide) ?_
          refine lv_goto (tgt := 113) hx hb dX11_cloud_109 (by decide) ?_
          exact q_reti hE hr hlocks hW (((q_c (k := 1) (x := 1) (by decide)).w (by decide) (by decide))) dX11_cloud_113
      have kc6_7 : i2.toInt = 7 := by omega
      refine lv_tableIn (off := 97) (tgt := 114) hx hb dX11_cloud_17 (by rw [kc6_7]; decide) (by rw [kc6_7]; decide) (by rw [kc6_7]; rfl) (by decide) ?_
      have fkc6_7 : q_V 7 7 i2 := q_c kc6_7
      refine lv_aload_n hx hb dX11_cloud_114 rfl (lv_at hl 0 rfl) ?_
      refine q_goi hW (q_runV (As := []) (rest := []) hE hW (c_X1_isDry l G ks3 kb5 hkb5) kw_X11_171 (q_recv hE hW hkb5 rfl q_k1) rfl hl.1 rfl (Nat.le_of_ble_eq_true rfl) dX11_cloud_115 ⟨by decide, by decide⟩ ⟨by decide, by decide⟩) (by decide) (fun kx31 ks29 H locs kp28 kf30 hW => ?_)
      refine lv_if_eq (tgt := 125) hx hb dX11_cloud_118 (by decide) (fun kc32 => ?_) (fun kc32 => ?_)
      · have kv33 : q_V 0 0 kx31 := q_eq1 kp28 (q_c (k := 0) (x := 0) (by decide)) kc32 (by decide) (by decide)
        refine lv_iconst (v := 0) hx hb dX11_cloud_125 (by decide) ?_
        exact q_reti hE hr hlocks hW (((q_c (k := 0) (x := 0) (by decide)).w (by decide) (by decide))) dX11_cloud_126
      · have kv34 : q_V 1 1 kx31 := q_ne1 kp28 (q_c (k := 0) (x := 0) (by decide)) kc32 (by decide)
        refine lv_iconst (v := 1) hx hb dX11_cloud_121 (by decide) ?_
        refine lv_goto (tgt := 126) hx hb dX11_cloud_122 (by decide) ?_
        exact q_reti hE hr hlocks hW (((q_c (k := 1) (x := 1) (by decide)).w (by decide) (by decide))) dX11_cloud_126
set_option maxHeartbeats 4000000 in
set_option maxRecDepth 100000 in
theorem c_X11_deep (l : Launch) (G : q_G) (σ : q_S) (a0 : Nat) (h0 : q_T G a0 = 26) (i1 : Int32) (i2 : Int32)  : Met l yX11_deep (Cond.code yX11_deep cX11_deep 4 (some .int) :: wsL_law) (q_Rm 2) (q_Pre G σ [.ref a0, .int i1, .int i2]) (q_Qi G [] σ (fun r σ1 => q_V (-2147483648) 2147483647 r)) 0 0 (q_N G) := by
  refine q_ofW (ts := []) (by decide) (Nat.le_of_ble_eq_true rfl) ?_
  intro p e s m args below meth c hE hr hlocks hW ls hl
  have hE : q_E G p s m args c cX11_deep 4 RX11 := hE
  have hx := hE.1.1
  have hb := hE.1.2.1
  have hl : lv_has ls 4 [(0, .ref a0), (1, .int i1), (2, .int i2)] := hl
  refine lv_aload_n hx hb dX11_deep_0 rfl (lv_at hl 0 rfl) ?_
  refine q_getr hE hW h0 rfl q_k11 5 (by decide) rfl (hE.l wl_35) dX11_deep_1 (fun kb1 ekb1 hkb1a hkb1b => ?_)
  have hkb1 : q_T G kb1 = 7 := q_tag hkb1a hkb1b
  refine lv_iload_n hx hb dX11_deep_4 rfl (lv_at hl 1 rfl) ?_
  refine q_goq hW (q_runV (As := [.int i1]) (rest := []) hE hW (c_X2_cloudAt l G σ kb1 hkb1 i1) kw_X11_137 (q_recv hE hW hkb1 rfl q_k2) rfl hl.1 rfl (Nat.le_of_ble_eq_true rfl) dX11_deep_5 ⟨by decide, by decide⟩ ⟨by decide, by decide⟩) (by decide) (fun ks3 H locs kp2 kf4 hW => ?_) (fun kb5 ks3 H locs kp2 kf4 hW => ?_)
  · refine lv_astore_nN (lv' := [(3, .null), (0, .ref a0), (1, .int i1), (2, .int i2)]) hx hb dX11_deep_8 rfl hl (by decide) rfl (fun ls hl => ?_)
    refine lv_aload_nN hx hb dX11_deep_9 rfl (lv_at hl 0 rfl) ?_
    refine lv_ifnullN hx hb dX11_deep_10 (tgt := 23) (by decide) ?_
    refine lv_bipush (v := (-2)) hx hb dX11_deep_23 (by decide) ?_
    exact q_reti hE hr hlocks hW (((q_c (k := (-2)) (x := (-2)) (by decide)).w (by decide) (by decide))) dX11_deep_25
  · have hkb5 : q_T G kb5 = 5 := kp2 kb5 rfl
    refine lv_astore_n (lv' := [(3, .ref kb5), (0, .ref a0), (1, .int i1), (2, .int i2)]) hx hb dX11_deep_8 rfl hl (by decide) rfl (fun ls hl => ?_)
    refine lv_aload_n hx hb dX11_deep_9 rfl (lv_at hl 0 rfl) ?_
    refine lv_ifnull hx hb dX11_deep_10 ?_
    refine lv_iload_n hx hb dX11_deep_13 rfl (lv_at hl 3 rfl) ?_
    refine lv_if_lt (tgt := 23) hx hb dX11_deep_14 (by decide) (fun kc6 => ?_) (fun kc6 => ?_)
    · have kv7 : q_V (-2147483648) (-1) i2 := (q_lt1 (q_all i2) (q_c (k := 0) (x := 0) (by decide)) kc6).w (by decide) (by decide)
      refine lv_bipush (v := (-2)) hx hb dX11_deep_23 (by decide) ?_
      exact q_reti hE hr hlocks hW (((q_c (k := (-2)) (x := (-2)) (by decide)).w (by decide) (by decide))) dX11_deep_25
    · have kv8 : q_V 0 2147483647 i2 := (q_le2 (q_c (k := 0) (x := 0) (by decide)) (q_all i2) (Int32.not_lt.mp kc6)).w (by decide) (by decide)
      refine lv_iload_n hx hb dX11_deep_17 rfl (lv_at hl 3 rfl) ?_
      refine lv_bipush (v := 6) hx hb dX11_deep_18 (by decide) ?_
      refine lv_icmp_lt (tgt := 26) hx hb dX11_deep_20 (by decide) (fun kc9 => ?_) (fun kc9 => ?_)
      · have kv10 : q_V 0 5 i2 := (q_lt1 kv8 (q_c (k := 6) (x := 6) (by decide)) kc9).w (by decide) (by decide)
        refine lv_aload_n hx hb dX11_deep_26 rfl (lv_at hl 0 rfl) ?_
        refine q_getr hE hW hkb5 rfl q_k1 5 (by decide) rfl (hE.n 14 rfl) dX11_deep_27 (fun kb11 ekb11 hkb11a hkb11b => ?_)
        have hkb11 : q_T G kb11 = 6 := q_tag hkb11a hkb11b
        refine lv_iload_n hx hb dX11_deep_30 rfl (lv_at hl 3 rfl) ?_
        refine q_iald hE hW hkb11 rfl (q_in kv10 (by decide) (by decide)) dX11_deep_31 (fun kx12 ekx12 gkx12 => ?_)
        exact q_reti hE hr hlocks hW ((q_all kx12)) dX11_deep_32
      · have kv13 : q_V 6 2147483647 i2 := (q_le2 (q_c (k := 6) (x := 6) (by decide)) kv8 (Int32.not_lt.mp kc9)).w (by decide) (by decide)
        refine lv_bipush (v := (-2)) hx hb dX11_deep_23 (by decide) ?_
        exact q_reti hE hr hlocks hW (((q_c (k := (-2)) (x := (-2)) (by decide)).w (by decide) (by decide))) dX11_deep_25
set_option maxHeartbeats 4000000 in
set_option maxRecDepth 100000 in
theorem c_X11_washer (l : Launch) (G : q_G) (σ : q_S) (a0 : Nat) (h0 : q_T G a0 = 26) (i1 : Int32) (i2 : Int32)  : Met l yX11_washer (Cond.code yX11_washer cX11_washer 3 (some .int) :: wsL_law) (q_Rm 2) (q_Pre G σ [.ref a0, .int i1, .int i2]) (q_Qi G [] σ (fun r σ1 => q_V (-2147483648) 2147483647 r)) 0 0 (q_N G) := by
  refine q_ofW (ts := []) (by decide) (Nat.le_of_ble_eq_true rfl) ?_
  intro p e s m args below meth c hE hr hlocks hW ls hl
  have hE : q_E G p s m args c cX11_washer 3 RX11 := hE
  have hx := hE.1.1
  have hb := hE.1.2.1
  have hl : lv_has ls 3 [(0, .ref a0), (1, .int i1), (2, .int i2)] := hl
  refine lv_aload_n hx hb dX11_washer_0 rfl (lv_at hl 0 rfl) ?_
  refine q_getr hE hW h0 rfl q_k11 5 (by decide) rfl (hE.l wl_35) dX11_washer_1 (fun kb1 ekb1 hkb1a hkb1b => ?_)
  have hkb1 : q_T G kb1 = 7 := q_tag hkb1a hkb1b
  refine lv_iload_n hx hb dX11_washer_4 rfl (lv_at hl 1 rfl) ?_
  refine q_goi hW (q_runV (As := [.int i1]) (rest := []) hE hW (c_X2_isWasher l G σ kb1 hkb1 i1) kw_X11_177 (q_recv hE hW hkb1 rfl q_k2) rfl hl.1 rfl (Nat.le_of_ble_eq_true rfl) dX11_washer_5 ⟨by decide, by decide⟩ ⟨by decide, by decide⟩) (by decide) (fun kx5 ks3 H locs kp2 kf4 hW => ?_)
  refine lv_if_ne (tgt := 14) hx hb dX11_washer_8 (by decide) (fun kc6 => ?_) (fun kc6 => ?_)
  · have kv7 : q_V 0 2 i1 := kp2.2 kc6
    have kv8 : q_V 1 1 kx5 := q_ne1 kp2.1 (q_c (k := 0) (x := 0) (by decide)) kc6 (by decide)
    refine lv_iload_n hx hb dX11_washer_14 rfl (lv_at hl 2 rfl) ?_
    by_cases kc9_0 : i2 = 0
    · have fkc9_0 : q_V 0 0 i2 := by rw [kc9_0]; exact q_c (by decide)
      refine lv_lookup (off := 25) (tgt := 40) hx hb dX11_washer_15 (by decide) (by rw [kc9_0]; rfl) (by decide) ?_
      refine lv_aload_n hx hb dX11_washer_40 rfl (lv_at hl 0 rfl) ?_
      refine q_getr hE hW h0 rfl q_k11 5 (by decide) rfl (hE.l wl_35) dX11_washer_41 (fun kb10 ekb10 hkb10a hkb10b => ?_)
      obtain rfl : kb1 = kb10 := ((kf4.R _ h0 (by decide)).trans ekb1).symm.trans ekb10
      refine q_getr hE hW hkb1 rfl q_k2 2 (by decide) rfl (hE.n 23 rfl) dX11_washer_44 (fun kb11 ekb11 hkb11a hkb11b => ?_)
      have hkb11 : q_T G kb11 = 9 := q_tag hkb11a hkb11b
      refine lv_iload_n hx hb dX11_washer_47 rfl (lv_at hl 1 rfl) ?_
      refine q_iald hE hW hkb11 rfl (q_in kv7 (by decide) (by decide)) dX11_washer_48 (fun kx12 ekx12 gkx12 => ?_)
      exact q_reti hE hr hlocks hW ((q_all kx12)) dX11_washer_49
    by_cases kc9_1 : i2 = 1
    · have fkc9_1 : q_V 1 1 i2 := by rw [kc9_1]; exact q_c (by decide)
      refine lv_lookup (off := 35) (tgt := 50) hx hb dX11_washer_15 (by decide) (by rw [kc9_1]; rfl) (by decide) ?_
      refine lv_aload_n hx hb dX11_washer_50 rfl (lv_at hl 0 rfl) ?_
      refine q_getr hE hW h0 rfl q_k11 5 (by decide) rfl (hE.l wl_35) dX11_washer_51 (fun kb13 ekb13 hkb13a hkb13b => ?_)
      obtain rfl : kb1 = kb13 := ((kf4.R _ h0 (by decide)).trans ekb1).symm.trans ekb13
      refine q_getr hE hW hkb1 rfl q_k2 3 (by decide) rfl (hE.n 24 rfl) dX11_washer_54 (fun kb14 ekb14 hkb14a hkb14b => ?_)
      have hkb14 : q_T G kb14 = 10 := q_tag hkb14a hkb14b
      refine lv_iload_n hx hb dX11_washer_57 rfl (lv_at hl 1 rfl) ?_
      refine q_iald hE hW hkb14 rfl (q_in kv7 (by decide) (by decide)) dX11_washer_58 (fun kx15 ekx15 gkx15 => ?_)
      exact q_reti hE hr hlocks hW ((q_all kx15)) dX11_washer_59
    refine lv_lookup (off := 45) (tgt := 60) hx hb dX11_washer_15 (by decide) (by show Op.lookupswitch.offset [(0, 25), (1, 35)] 45 i2.toInt = _; rw [lv_osw (k := 0) kc9_0 (by decide), lv_osw (k := 1) kc9_1 (by decide)]; rfl) (by decide) ?_
    refine lv_bipush (v := (-3)) hx hb dX11_washer_60 (by decide) ?_
    exact q_reti hE hr hlocks hW (((q_c (k := (-3)) (x := (-3)) (by decide)).w (by decide) (by decide))) dX11_washer_62
  · have kv16 : q_V 0 0 kx5 := q_eq1 kp2.1 (q_c (k := 0) (x := 0) (by decide)) kc6 (by decide) (by decide)
    refine lv_bipush (v := (-2)) hx hb dX11_washer_11 (by decide) ?_
    exact q_reti hE hr hlocks hW (((q_c (k := (-2)) (x := (-2)) (by decide)).w (by decide) (by decide))) dX11_washer_13
set_option maxHeartbeats 4000000 in
set_option maxRecDepth 100000 in
theorem c_X11_water (l : Launch) (G : q_G) (σ : q_S) (a0 : Nat) (h0 : q_T G a0 = 26) (i1 : Int32) (i2 : Int32)  : Met l yX11_water (Cond.code yX11_water cX11_water 3 (some .int) :: wsL_law) (q_Rm 2) (q_Pre G σ [.ref a0, .int i1, .int i2]) (q_Qi G [] σ (fun r σ1 => q_V (-2147483648) 2147483647 r)) 0 0 (q_N G) := by
  refine q_ofW (ts := []) (by decide) (Nat.le_of_ble_eq_true rfl) ?_
  intro p e s m args below meth c hE hr hlocks hW ls hl
  have hE : q_E G p s m args c cX11_water 3 RX11 := hE
  have hx := hE.1.1
  have hb := hE.1.2.1
  have hl : lv_has ls 3 [(0, .ref a0), (1, .int i1), (2, .int i2)] := hl
  refine lv_iload_n hx hb dX11_water_0 rfl (lv_at hl 1 rfl) ?_
  refine lv_if_lt (tgt := 20) hx hb dX11_water_1 (by decide) (fun kc1 => ?_) (fun kc1 => ?_)
  · have kv2 : q_V (-2147483648) (-1) i1 := (q_lt1 (q_all i1) (q_c (k := 0) (x := 0) (by decide)) kc1).w (by decide) (by decide)
    refine lv_bipush (v := (-2)) hx hb dX11_water_20 (by decide) ?_
    exact q_reti hE hr hlocks hW (((q_c (k := (-2)) (x := (-2)) (by decide)).w (by decide) (by decide))) dX11_water_22
  · have kv3 : q_V 0 2147483647 i1 := (q_le2 (q_c (k := 0) (x := 0) (by decide)) (q_all i1) (Int32.not_lt.mp kc1)).w (by decide) (by decide)
    refine lv_iload_n hx hb dX11_water_4 rfl (lv_at hl 1 rfl) ?_
    refine lv_bipush (v := 7) hx hb dX11_water_5 (by decide) ?_
    refine lv_icmp_ge (tgt := 20) hx hb dX11_water_7 (by decide) (fun kc4 => ?_) (fun kc4 => ?_)
    · have kv5 : q_V 7 2147483647 i1 := (q_le2 (q_c (k := 7) (x := 7) (by decide)) kv3 kc4).w (by decide) (by decide)
      refine lv_bipush (v := (-2)) hx hb dX11_water_20 (by decide) ?_
      exact q_reti hE hr hlocks hW (((q_c (k := (-2)) (x := (-2)) (by decide)).w (by decide) (by decide))) dX11_water_22
    · have kv6 : q_V 0 6 i1 := (q_lt1 kv3 (q_c (k := 7) (x := 7) (by decide)) (Int32.not_le.mp kc4)).w (by decide) (by decide)
      refine lv_iload_n hx hb dX11_water_10 rfl (lv_at hl 2 rfl) ?_
      refine lv_if_lt (tgt := 20) hx hb dX11_water_11 (by decide) (fun kc7 => ?_) (fun kc7 => ?_)
      · have kv8 : q_V (-2147483648) (-1) i2 := (q_lt1 (q_all i2) (q_c (k := 0) (x := 0) (by decide)) kc7).w (by decide) (by decide)
        refine lv_bipush (v := (-2)) hx hb dX11_water_20 (by decide) ?_
        exact q_reti hE hr hlocks hW (((q_c (k := (-2)) (x := (-2)) (by decide)).w (by decide) (by decide))) dX11_water_22
      · have kv9 : q_V 0 2147483647 i2 := (q_le2 (q_c (k := 0) (x := 0) (by decide)) (q_all i2) (Int32.not_lt.mp kc7)).w (by decide) (by decide)
        refine lv_iload_n hx hb dX11_water_14 rfl (lv_at hl 2 rfl) ?_
        refine lv_bipush (v := 6) hx hb dX11_water_15 (by decide) ?_
        refine lv_icmp_lt (tgt := 23) hx hb dX11_water_17 (by decide) (fun kc10 => ?_) (fun kc10 => ?_)
        · have kv11 : q_V 0 5 i2 := (q_lt1 kv9 (q_c (k := 6) (x := 6) (by decide)) kc10).w (by decide) (by decide)
          refine lv_aload_n hx hb dX11_water_23 rfl (lv_at hl 0 rfl) ?_
          refine q_getr hE hW h0 rfl q_k11 5 (by decide) rfl (hE.l wl_35) dX11_water_24 (fun kb12 ekb12 hkb12a hkb12b => ?_)
          have hkb12 : q_T G kb12 = 7 := q_tag hkb12a hkb12b
          refine q_getr hE hW hkb12 rfl q_k2 5 (by decide) rfl (hE.n 28 rfl) dX11_water_27 (fun kb13 ekb13 hkb13a hkb13b => ?_)
          have hkb13 : q_T G kb13 = 11 := q_tag hkb13a hkb13b
          refine lv_iload_n hx hb dX11_water_30 rfl (lv_at hl 1 rfl) ?_
          refine q_aald hE hW hkb13 rfl (q_in kv6 (by decide) (by decide)) dX11_water_31 (fun kb14 ekb14 hkb14a hkb14b => ?_)
          have hkb14 : q_T G kb14 = 12 := q_tag hkb14a hkb14b
          refine lv_iload_n hx hb dX11_water_32 rfl (lv_at hl 2 rfl) ?_
          refine q_iald hE hW hkb14 rfl (q_in kv11 (by decide) (by decide)) dX11_water_33 (fun kx15 ekx15 gkx15 => ?_)
          exact q_reti hE hr hlocks hW ((q_all kx15)) dX11_water_34
        · have kv16 : q_V 6 2147483647 i2 := (q_le2 (q_c (k := 6) (x := 6) (by decide)) kv9 (Int32.not_lt.mp kc10)).w (by decide) (by decide)
          refine lv_bipush (v := (-2)) hx hb dX11_water_20 (by decide) ?_
          exact q_reti hE hr hlocks hW (((q_c (k := (-2)) (x := (-2)) (by decide)).w (by decide) (by decide))) dX11_water_22
set_option maxHeartbeats 4000000 in
set_option maxRecDepth 100000 in
theorem c_X11_as (l : Launch) (G : q_G) (σ : q_S) (a0 : Nat) (h0 : q_T G a0 = 26) (i1 : Int32) (i2 : Int32)  : Met l yX11_as (Cond.code yX11_as cX11_as 4 (some .int) :: wsL_law) (q_Rm 4) (q_Pre G σ [.ref a0, .int i1, .int i2]) (q_Qi G [] σ (fun r σ1 => q_V (-2147483648) 2147483647 r)) 0 0 (q_N G) := by
  refine q_ofW (ts := []) (by decide) (Nat.le_of_ble_eq_true rfl) ?_
  intro p e s m args below meth c hE hr hlocks hW ls hl
  have hE : q_E G p s m args c cX11_as 4 RX11 := hE
  have hx := hE.1.1
  have hb := hE.1.2.1
  have hl : lv_has ls 4 [(0, .ref a0), (1, .int i1), (2, .int i2)] := hl
  refine lv_aload_n hx hb dX11_as_0 rfl (lv_at hl 0 rfl) ?_
  refine q_getr hE hW h0 rfl q_k11 5 (by decide) rfl (hE.l wl_35) dX11_as_1 (fun kb1 ekb1 hkb1a hkb1b => ?_)
  have hkb1 : q_T G kb1 = 7 := q_tag hkb1a hkb1b
  refine lv_iload_n hx hb dX11_as_4 rfl (lv_at hl 1 rfl) ?_
  refine q_goq hW (q_runV (As := [.int i1]) (rest := []) hE hW (c_X2_cloudAt l G σ kb1 hkb1 i1) kw_X11_137 (q_recv hE hW hkb1 rfl q_k2) rfl hl.1 rfl (Nat.le_of_ble_eq_true rfl) dX11_as_5 ⟨by decide, by decide⟩ ⟨by decide, by decide⟩) (by decide) (fun ks3 H locs kp2 kf4 hW => ?_) (fun kb5 ks3 H locs kp2 kf4 hW => ?_)
  · refine lv_astore_nN (lv' := [(3, .null), (0, .ref a0), (1, .int i1), (2, .int i2)]) hx hb dX11_as_8 rfl hl (by decide) rfl (fun ls hl => ?_)
    refine lv_aload_nN hx hb dX11_as_9 rfl (lv_at hl 0 rfl) ?_
    refine lv_ifnonnullN hx hb dX11_as_10 ?_
    refine lv_bipush (v := (-2)) hx hb dX11_as_13 (by decide) ?_
    exact q_reti hE hr hlocks hW (((q_c (k := (-2)) (x := (-2)) (by decide)).w (by decide) (by decide))) dX11_as_15
  · have hkb5 : q_T G kb5 = 5 := kp2 kb5 rfl
    refine lv_astore_n (lv' := [(3, .ref kb5), (0, .ref a0), (1, .int i1), (2, .int i2)]) hx hb dX11_as_8 rfl hl (by decide) rfl (fun ls hl => ?_)
    refine lv_aload_n hx hb dX11_as_9 rfl (lv_at hl 0 rfl) ?_
    refine lv_ifnonnull hx hb dX11_as_10 (tgt := 16) (by decide) ?_
    refine lv_iload_n hx hb dX11_as_16 rfl (lv_at hl 3 rfl) ?_
    refine lv_if_lt (tgt := 25) hx hb dX11_as_17 (by decide) (fun kc6 => ?_) (fun kc6 => ?_)
    · have kv7 : q_V (-2147483648) (-1) i2 := (q_lt1 (q_all i2) (q_c (k := 0) (x := 0) (by decide)) kc6).w (by decide) (by decide)
      refine lv_bipush (v := (-3)) hx hb dX11_as_25 (by decide) ?_
      exact q_reti hE hr hlocks hW (((q_c (k := (-3)) (x := (-3)) (by decide)).w (by decide) (by decide))) dX11_as_27
    · have kv8 : q_V 0 2147483647 i2 := (q_le2 (q_c (k := 0) (x := 0) (by decide)) (q_all i2) (Int32.not_lt.mp kc6)).w (by decide) (by decide)
      refine lv_iload_n hx hb dX11_as_20 rfl (lv_at hl 3 rfl) ?_
      refine lv_iconst (v := 4) hx hb dX11_as_21 (by decide) ?_
      refine lv_icmp_le (tgt := 28) hx hb dX11_as_22 (by decide) (fun kc9 => ?_) (fun kc9 => ?_)
      · have kv10 : q_V 0 4 i2 := (q_le1 kv8 (q_c (k := 4) (x := 4) (by decide)) kc9).w (by decide) (by decide)
        refine lv_aload_n hx hb dX11_as_28 rfl (lv_at hl 0 rfl) ?_
        refine q_getr hE hW hkb5 rfl q_k1 0 (by decide) rfl (hE.n 3 rfl) dX11_as_29 (fun kb11 ekb11 hkb11a hkb11b => ?_)
        refine lv_iload_n hx hb dX11_as_32 rfl (lv_at hl 3 rfl) ?_
        refine q_goi hW (q_runS (As := [.ref kb11, .int i2]) (rest := []) hE hW (c_X11_isOne l G ks3 kb11 (Int.le_trans (by decide) hkb11a) (Int.le_trans hkb11b (by decide)) i2) kw_X11_191 rfl hl.1 rfl (Nat.le_of_ble_eq_true rfl) dX11_as_33 ⟨by decide, by decide⟩ ⟨by decide, by decide⟩) (by decide) (fun kx15 ks13 H locs kp12 kf14 hW => ?_)
        refine lv_if_eq (tgt := 50) hx hb dX11_as_36 (by decide) (fun kc16 => ?_) (fun kc16 => ?_)
        · have kv17 : q_V 0 0 kx15 := q_eq1 kp12 (q_c (k := 0) (x := 0) (by decide)) kc16 (by decide) (by decide)
          refine lv_bipush (v := (-4)) hx hb dX11_as_50 (by decide) ?_
          exact q_reti hE hr hlocks hW (((q_c (k := (-4)) (x := (-4)) (by decide)).w (by decide) (by decide))) dX11_as_52
        · have kv18 : q_V 1 1 kx15 := q_ne1 kp12 (q_c (k := 0) (x := 0) (by decide)) kc16 (by decide)
          refine lv_aload_n hx hb dX11_as_39 rfl (lv_at hl 0 rfl) ?_
          refine q_getr hE hW hkb5 rfl q_k1 0 (by decide) rfl (hE.n 3 rfl) dX11_as_40 (fun kb19 ekb19 hkb19a hkb19b => ?_)
          obtain rfl : kb11 = kb19 := ((kf14.R _ hkb5 (by decide)).trans ekb11).symm.trans ekb19
          refine lv_iconst (v := 3) hx hb dX11_as_43 (by decide) ?_
          refine q_goi hW (kd_X11_195 l (rest := []) (3) hE hW hkb11a hkb11b hl.1 rfl (Nat.le_of_ble_eq_true rfl) dX11_as_44 ⟨by decide, by decide⟩ ⟨by decide, by decide⟩) (by decide) (fun kx23 ks21 H locs kp20 kf22 hW => ?_)
          refine lv_goto (tgt := 52) hx hb dX11_as_47 (by decide) ?_
          exact q_reti hE hr hlocks hW ((q_all kx23)) dX11_as_52
      · have kv24 : q_V 5 2147483647 i2 := (q_lt2 (q_c (k := 4) (x := 4) (by decide)) kv8 (Int32.not_le.mp kc9)).w (by decide) (by decide)
        refine lv_bipush (v := (-3)) hx hb dX11_as_25 (by decide) ?_
        exact q_reti hE hr hlocks hW (((q_c (k := (-3)) (x := (-3)) (by decide)).w (by decide) (by decide))) dX11_as_27
set_option maxHeartbeats 4000000 in
set_option maxRecDepth 100000 in
theorem c_X11_wash (l : Launch) (G : q_G) (σ : q_S) (a0 : Nat) (h0 : q_T G a0 = 26) (i1 : Int32) (i2 : Int32)  : Met l yX11_wash (Cond.code yX11_wash cX11_wash 4 (some .int) :: wsL_law) (q_Rm 4) (q_Pre G σ [.ref a0, .int i1, .int i2]) (q_Qi G [5, 6, 7, 9, 10, 12, 26, 29] σ (fun r σ1 => q_V (-2147483648) 2147483647 r)) 0 0 (q_N G) := by
  refine q_ofW (ts := [5, 6, 7, 9, 10, 12, 26, 29]) (by decide) (Nat.le_of_ble_eq_true rfl) ?_
  intro p e s m args below meth c hE hr hlocks hW ls hl
  have hE : q_E G p s m args c cX11_wash 4 RX11 := hE
  have hx := hE.1.1
  have hb := hE.1.2.1
  have hl : lv_has ls 4 [(0, .ref a0), (1, .int i1), (2, .int i2)] := hl
  refine lv_aload_n hx hb dX11_wash_0 rfl (lv_at hl 0 rfl) ?_
  refine q_getr hE hW h0 rfl q_k11 5 (by decide) rfl (hE.l wl_35) dX11_wash_1 (fun kb1 ekb1 hkb1a hkb1b => ?_)
  have hkb1 : q_T G kb1 = 7 := q_tag hkb1a hkb1b
  refine lv_iload_n hx hb dX11_wash_4 rfl (lv_at hl 2 rfl) ?_
  refine q_goq hW (q_runV (As := [.int i2]) (rest := []) hE hW (c_X2_cloudAt l G σ kb1 hkb1 i2) kw_X11_137 (q_recv hE hW hkb1 rfl q_k2) rfl hl.1 rfl (Nat.le_of_ble_eq_true rfl) dX11_wash_5 ⟨by decide, by decide⟩ ⟨by decide, by decide⟩) (by decide) (fun ks3 H locs kp2 kf4 hW => ?_) (fun kb5 ks3 H locs kp2 kf4 hW => ?_)
  · refine lv_astore_nN (lv' := [(3, .null), (0, .ref a0), (1, .int i1), (2, .int i2)]) hx hb dX11_wash_8 rfl hl (by decide) rfl (fun ls hl => ?_)
    refine lv_aload_nN hx hb dX11_wash_9 rfl (lv_at hl 0 rfl) ?_
    refine lv_ifnullN hx hb dX11_wash_10 (tgt := 24) (by decide) ?_
    refine lv_bipush (v := (-2)) hx hb dX11_wash_24 (by decide) ?_
    exact q_reti hE hr hlocks hW (((q_c (k := (-2)) (x := (-2)) (by decide)).w (by decide) (by decide))) dX11_wash_26
  · have hkb5 : q_T G kb5 = 5 := kp2 kb5 rfl
    refine lv_astore_n (lv' := [(3, .ref kb5), (0, .ref a0), (1, .int i1), (2, .int i2)]) hx hb dX11_wash_8 rfl hl (by decide) rfl (fun ls hl => ?_)
    refine lv_aload_n hx hb dX11_wash_9 rfl (lv_at hl 0 rfl) ?_
    refine lv_ifnull hx hb dX11_wash_10 ?_
    refine lv_aload_n hx hb dX11_wash_13 rfl (lv_at hl 1 rfl) ?_
    refine q_getr hE hW h0 rfl q_k11 5 (by decide) rfl (hE.l wl_35) dX11_wash_14 (fun kb6 ekb6 hkb6a hkb6b => ?_)
    obtain rfl : kb1 = kb6 := ((kf4.R _ h0 (by decide)).trans ekb1).symm.trans ekb6
    refine lv_iload_n hx hb dX11_wash_17 rfl (lv_at hl 2 rfl) ?_
    refine q_goi hW (q_runV (As := [.int i1]) (rest := []) hE hW (c_X2_isWasher l G ks3 kb1 hkb1 i1) kw_X11_177 (q_recv hE hW hkb1 rfl q_k2) rfl hl.1 rfl (Nat.le_of_ble_eq_true rfl) dX11_wash_18 ⟨by decide, by decide⟩ ⟨by decide, by decide⟩) (by decide) (fun kx10 ks8 H locs kp7 kf9 hW => ?_)
    refine lv_if_ne (tgt := 27) hx hb dX11_wash_21 (by decide) (fun kc11 => ?_) (fun kc11 => ?_)
    · have kv12 : q_V 0 2 i1 := kp7.2 kc11
      have kv13 : q_V 1 1 kx10 := q_ne1 kp7.1 (q_c (k := 0) (x := 0) (by decide)) kc11 (by decide)
      refine lv_aload_n hx hb dX11_wash_27 rfl (lv_at hl 0 rfl) ?_
      refine q_geti hE hW hkb5 rfl q_k1 3 (by decide) rfl (hE.n 9 rfl) dX11_wash_28 (fun kx14 ekx14 vkx14 => ?_)
      refine lv_if_ne (tgt := 47) hx hb dX11_wash_31 (by decide) (fun kc15 => ?_) (fun kc15 => ?_)
      · refine lv_bipush (v := (-4)) hx hb dX11_wash_47 (by decide) ?_
        exact q_reti hE hr hlocks hW (((q_c (k := (-4)) (x := (-4)) (by decide)).w (by decide) (by decide))) dX11_wash_49
      · have kv16 : q_V 0 0 kx14 := q_eq1 (q_all kx14) (q_c (k := 0) (x := 0) (by decide)) kc15 (by decide) (by decide)
        refine lv_aload_n hx hb dX11_wash_34 rfl (lv_at hl 1 rfl) ?_
        refine q_getr hE hW h0 rfl q_k11 5 (by decide) rfl (hE.l wl_35) dX11_wash_35 (fun kb17 ekb17 hkb17a hkb17b => ?_)
        obtain rfl : kb1 = kb17 := (((kf9.R _ h0 (by decide)).trans (kf4.R _ h0 (by decide))).trans ekb1).symm.trans ekb17
        refine q_getr hE hW hkb1 rfl q_k2 3 (by decide) rfl (hE.n 24 rfl) dX11_wash_38 (fun kb18 ekb18 hkb18a hkb18b => ?_)
        have hkb18 : q_T G kb18 = 10 := q_tag hkb18a hkb18b
        refine lv_iload_n hx hb dX11_wash_41 rfl (lv_at hl 2 rfl) ?_
        refine q_iald hE hW hkb18 rfl (q_in kv12 (by decide) (by decide)) dX11_wash_42 (fun kx19 ekx19 gkx19 => ?_)
        refine lv_iconst (v := (-1)) hx hb dX11_wash_43 (by decide) ?_
        refine lv_icmp_eq (tgt := 50) hx hb dX11_wash_44 (by decide) (fun kc20 => ?_) (fun kc20 => ?_)
        · have kv21 : q_V (-1) (-1) kx19 := q_eq1 (q_all kx19) (q_c (k := (-1)) (x := (-1)) (by decide)) kc20 (by decide) (by decide)
          refine lv_aload_n hx hb dX11_wash_50 rfl (lv_at hl 1 rfl) ?_
          refine q_gov hW (q_runV (As := []) (rest := []) hE hW (c_X11_remember l G ks8 a0 h0) kw_X11_198 (q_recv hE hW h0 rfl q_k11) rfl hl.1 rfl (Nat.le_of_ble_eq_true rfl) dX11_wash_51 ⟨by decide, by decide⟩ ⟨by decide, by decide⟩) (by decide) (fun ks23 H locs kp22 kf24 hW => ?_)
          refine lv_aload_n hx hb dX11_wash_54 rfl (lv_at hl 0 rfl) ?_
          refine lv_iconst (v := 1) hx hb dX11_wash_55 (by decide) ?_
          refine q_puti hE hW hkb5 rfl q_k1 tyX1 tyX1_ok 3 (by decide) rfl (hE.n 9 rfl) rfl rfl rfl ((q_c (k := 1) (x := 1) (by decide)).w (by decide) (by decide)) (by decide) dX11_wash_56 (fun H locs ks25 kp26 hW => ?_)
          refine lv_aload_n hx hb dX11_wash_59 rfl (lv_at hl 1 rfl) ?_
          refine q_getr hE hW h0 rfl q_k11 5 (by decide) rfl (hE.l wl_35) dX11_wash_60 (fun kb27 ekb27 hkb27a hkb27b => ?_)
          have hkb27 : q_T G kb27 = 7 := q_tag hkb27a hkb27b
          refine q_getr hE hW hkb27 rfl q_k2 3 (by decide) rfl (hE.n 24 rfl) dX11_wash_63 (fun kb28 ekb28 hkb28a hkb28b => ?_)
          have hkb28 : q_T G kb28 = 10 := q_tag hkb28a hkb28b
          refine lv_iload_n hx hb dX11_wash_66 rfl (lv_at hl 2 rfl) ?_
          refine lv_iload_n hx hb dX11_wash_67 rfl (lv_at hl 3 rfl) ?_
          refine q_iast hE hW hkb28 rfl (q_in kv12 (by decide) (by decide)) trivial (by decide) dX11_wash_68 (fun H locs ks29 kp30 hW => ?_)
          refine lv_aload_n hx hb dX11_wash_69 rfl (lv_at hl 0 rfl) ?_
          refine q_goi hW (q_runV (As := []) (rest := []) hE hW (c_X1_allDeep l G ks29 kb5 hkb5) kw_X11_201 (q_recv hE hW hkb5 rfl q_k1) rfl hl.1 rfl (Nat.le_of_ble_eq_true rfl) dX11_wash_70 ⟨by decide, by decide⟩ ⟨by decide, by decide⟩) (by decide) (fun kx34 ks32 H locs kp31 kf33 hW => ?_)
          exact q_reti hE hr hlocks hW ((q_all kx34)) dX11_wash_73
        · refine lv_bipush (v := (-4)) hx hb dX11_wash_47 (by decide) ?_
          exact q_reti hE hr hlocks hW (((q_c (k := (-4)) (x := (-4)) (by decide)).w (by decide) (by decide))) dX11_wash_49
    · have kv35 : q_V 0 0 kx10 := q_eq1 kp7.1 (q_c (k := 0) (x := 0) (by decide)) kc11 (by decide) (by decide)
      refine lv_bipush (v := (-2)) hx hb dX11_wash_24 (by decide) ?_
      exact q_reti hE hr hlocks hW (((q_c (k := (-2)) (x := (-2)) (by decide)).w (by decide) (by decide))) dX11_wash_26
set_option maxHeartbeats 4000000 in
set_option maxRecDepth 100000 in
theorem c_X11_hang (l : Launch) (G : q_G) (σ : q_S) (a0 : Nat) (h0 : q_T G a0 = 26) (i1 : Int32)  : Met l yX11_hang (Cond.code yX11_hang cX11_hang 4 (some .int) :: wsL_law) (q_Rm 4) (q_Pre G σ [.ref a0, .int i1]) (q_Qi G [5, 6, 7, 9, 10, 12, 26, 29] σ (fun r σ1 => q_V (-2147483648) 2147483647 r)) 0 0 (q_N G) := by
  refine q_ofW (ts := [5, 6, 7, 9, 10, 12, 26, 29]) (by decide) (Nat.le_of_ble_eq_true rfl) ?_
  intro p e s m args below meth c hE hr hlocks hW ls hl
  have hE : q_E G p s m args c cX11_hang 4 RX11 := hE
  have hx := hE.1.1
  have hb := hE.1.2.1
  have hl : lv_has ls 4 [(0, .ref a0), (1, .int i1)] := hl
  refine lv_aload_n hx hb dX11_hang_0 rfl (lv_at hl 0 rfl) ?_
  refine q_getr hE hW h0 rfl q_k11 5 (by decide) rfl (hE.l wl_35) dX11_hang_1 (fun kb1 ekb1 hkb1a hkb1b => ?_)
  have hkb1 : q_T G kb1 = 7 := q_tag hkb1a hkb1b
  refine lv_iload_n hx hb dX11_hang_4 rfl (lv_at hl 1 rfl) ?_
  refine q_goi hW (q_runV (As := [.int i1]) (rest := []) hE hW (c_X2_isWasher l G σ kb1 hkb1 i1) kw_X11_177 (q_recv hE hW hkb1 rfl q_k2) rfl hl.1 rfl (Nat.le_of_ble_eq_true rfl) dX11_hang_5 ⟨by decide, by decide⟩ ⟨by decide, by decide⟩) (by decide) (fun kx5 ks3 H locs kp2 kf4 hW => ?_)
  refine lv_if_ne (tgt := 14) hx hb dX11_hang_8 (by decide) (fun kc6 => ?_) (fun kc6 => ?_)
  · have kv7 : q_V 0 2 i1 := kp2.2 kc6
    have kv8 : q_V 1 1 kx5 := q_ne1 kp2.1 (q_c (k := 0) (x := 0) (by decide)) kc6 (by decide)
    refine lv_aload_n hx hb dX11_hang_14 rfl (lv_at hl 0 rfl) ?_
    refine q_getr hE hW h0 rfl q_k11 5 (by decide) rfl (hE.l wl_35) dX11_hang_15 (fun kb9 ekb9 hkb9a hkb9b => ?_)
    obtain rfl : kb1 = kb9 := ((kf4.R _ h0 (by decide)).trans ekb1).symm.trans ekb9
    refine q_getr hE hW hkb1 rfl q_k2 3 (by decide) rfl (hE.n 24 rfl) dX11_hang_18 (fun kb10 ekb10 hkb10a hkb10b => ?_)
    have hkb10 : q_T G kb10 = 10 := q_tag hkb10a hkb10b
    refine lv_iload_n hx hb dX11_hang_21 rfl (lv_at hl 1 rfl) ?_
    refine q_iald hE hW hkb10 rfl (q_in kv7 (by decide) (by decide)) dX11_hang_22 (fun kx11 ekx11 gkx11 => ?_)
    refine lv_istore_n (lv' := [(2, .int kx11), (0, .ref a0), (1, .int i1)]) hx hb dX11_hang_23 rfl hl (by decide) rfl (fun ls hl => ?_)
    refine lv_aload_n hx hb dX11_hang_24 rfl (lv_at hl 1 rfl) ?_
    refine q_getr hE hW h0 rfl q_k11 5 (by decide) rfl (hE.l wl_35) dX11_hang_25 (fun kb12 ekb12 hkb12a hkb12b => ?_)
    obtain rfl : kb1 = kb12 := ((kf4.R _ h0 (by decide)).trans ekb1).symm.trans ekb12
    refine lv_iload_n hx hb dX11_hang_28 rfl (lv_at hl 0 rfl) ?_
    refine q_goq hW (q_runV (As := [.int kx11]) (rest := []) hE hW (c_X2_cloudAt l G ks3 kb1 hkb1 kx11) kw_X11_137 (q_recv hE hW hkb1 rfl q_k2) rfl hl.1 rfl (Nat.le_of_ble_eq_true rfl) dX11_hang_29 ⟨by decide, by decide⟩ ⟨by decide, by decide⟩) (by decide) (fun ks14 H locs kp13 kf15 hW => ?_) (fun kb16 ks14 H locs kp13 kf15 hW => ?_)
    · refine lv_astore_nN (lv' := [(3, .null), (2, .int kx11), (0, .ref a0), (1, .int i1)]) hx hb dX11_hang_32 rfl hl (by decide) rfl (fun ls hl => ?_)
      refine lv_aload_nN hx hb dX11_hang_33 rfl (lv_at hl 0 rfl) ?_
      refine lv_ifnonnullN hx hb dX11_hang_34 ?_
      refine lv_bipush (v := (-4)) hx hb dX11_hang_37 (by decide) ?_
      exact q_reti hE hr hlocks hW (((q_c (k := (-4)) (x := (-4)) (by decide)).w (by decide) (by decide))) dX11_hang_39
    · have hkb16 : q_T G kb16 = 5 := kp13 kb16 rfl
      refine lv_astore_n (lv' := [(3, .ref kb16), (2, .int kx11), (0, .ref a0), (1, .int i1)]) hx hb dX11_hang_32 rfl hl (by decide) rfl (fun ls hl => ?_)
      refine lv_aload_n hx hb dX11_hang_33 rfl (lv_at hl 0 rfl) ?_
      refine lv_ifnonnull hx hb dX11_hang_34 (tgt := 40) (by decide) ?_
      refine lv_aload_n hx hb dX11_hang_40 rfl (lv_at hl 2 rfl) ?_
      refine q_gov hW (q_runV (As := []) (rest := []) hE hW (c_X11_remember l G ks14 a0 h0) kw_X11_198 (q_recv hE hW h0 rfl q_k11) rfl hl.1 rfl (Nat.le_of_ble_eq_true rfl) dX11_hang_41 ⟨by decide, by decide⟩ ⟨by decide, by decide⟩) (by decide) (fun ks18 H locs kp17 kf19 hW => ?_)
      refine lv_aload_n hx hb dX11_hang_44 rfl (lv_at hl 2 rfl) ?_
      refine q_getr hE hW h0 rfl q_k11 5 (by decide) rfl (hE.l wl_35) dX11_hang_45 (fun kb20 ekb20 hkb20a hkb20b => ?_)
      have hkb20 : q_T G kb20 = 7 := q_tag hkb20a hkb20b
      refine q_getr hE hW hkb20 rfl q_k2 3 (by decide) rfl (hE.n 24 rfl) dX11_hang_48 (fun kb21 ekb21 hkb21a hkb21b => ?_)
      have hkb21 : q_T G kb21 = 10 := q_tag hkb21a hkb21b
      refine lv_iload_n hx hb dX11_hang_51 rfl (lv_at hl 3 rfl) ?_
      refine lv_iconst (v := (-1)) hx hb dX11_hang_52 (by decide) ?_
      refine q_iast hE hW hkb21 rfl (q_in kv7 (by decide) (by decide)) trivial (by decide) dX11_hang_53 (fun H locs ks22 kp23 hW => ?_)
      refine lv_aload_n hx hb dX11_hang_54 rfl (lv_at hl 0 rfl) ?_
      refine lv_iconst (v := 2) hx hb dX11_hang_55 (by decide) ?_
      refine q_puti hE hW hkb16 rfl q_k1 tyX1 tyX1_ok 3 (by decide) rfl (hE.n 9 rfl) rfl rfl rfl ((q_c (k := 2) (x := 2) (by decide)).w (by decide) (by decide)) (by decide) dX11_hang_56 (fun H locs ks24 kp25 hW => ?_)
      refine lv_iload_n hx hb dX11_hang_59 rfl (lv_at hl 1 rfl) ?_
      exact q_reti hE hr hlocks hW ((q_all kx11)) dX11_hang_60
  · have kv26 : q_V 0 0 kx5 := q_eq1 kp2.1 (q_c (k := 0) (x := 0) (by decide)) kc6 (by decide) (by decide)
    refine lv_bipush (v := (-2)) hx hb dX11_hang_11 (by decide) ?_
    exact q_reti hE hr hlocks hW (((q_c (k := (-2)) (x := (-2)) (by decide)).w (by decide) (by decide))) dX11_hang_13
set_option maxHeartbeats 4000000 in
set_option maxRecDepth 100000 in
theorem c_X11_again (l : Launch) (G : q_G) (σ : q_S) (a0 : Nat) (h0 : q_T G a0 = 26) (i1 : Int32)  : Met l yX11_again (Cond.code yX11_again cX11_again 4 (some .int) :: wsL_law) (q_Rm 4) (q_Pre G σ [.ref a0, .int i1]) (q_Qi G [5, 6, 7, 9, 10, 12, 26, 29] σ (fun r σ1 => q_V (-2147483648) 2147483647 r)) 0 0 (q_N G) := by
  refine q_ofW (ts := [5, 6, 7, 9, 10, 12, 26, 29]) (by decide) (Nat.le_of_ble_eq_true rfl) ?_
  intro p e s m args below meth c hE hr hlocks hW ls hl
  have hE : q_E G p s m args c cX11_again 4 RX11 := hE
  have hx := hE.1.1
  have hb := hE.1.2.1
  have hl : lv_has ls 4 [(0, .ref a0), (1, .int i1)] := hl
  refine lv_aload_n hx hb dX11_again_0 rfl (lv_at hl 0 rfl) ?_
  refine q_getr hE hW h0 rfl q_k11 5 (by decide) rfl (hE.l wl_35) dX11_again_1 (fun kb1 ekb1 hkb1a hkb1b => ?_)
  have hkb1 : q_T G kb1 = 7 := q_tag hkb1a hkb1b
  refine lv_iload_n hx hb dX11_again_4 rfl (lv_at hl 1 rfl) ?_
  refine q_goq hW (q_runV (As := [.int i1]) (rest := []) hE hW (c_X2_cloudAt l G σ kb1 hkb1 i1) kw_X11_137 (q_recv hE hW hkb1 rfl q_k2) rfl hl.1 rfl (Nat.le_of_ble_eq_true rfl) dX11_again_5 ⟨by decide, by decide⟩ ⟨by decide, by decide⟩) (by decide) (fun ks3 H locs kp2 kf4 hW => ?_) (fun kb5 ks3 H locs kp2 kf4 hW => ?_)
  · refine lv_astore_nN (lv' := [(2, .null), (0, .ref a0), (1, .int i1)]) hx hb dX11_again_8 rfl hl (by decide) rfl (fun ls hl => ?_)
    refine lv_aload_nN hx hb dX11_again_9 rfl (lv_at hl 0 rfl) ?_
    refine lv_ifnonnullN hx hb dX11_again_10 ?_
    refine lv_bipush (v := (-2)) hx hb dX11_again_13 (by decide) ?_
    exact q_reti hE hr hlocks hW (((q_c (k := (-2)) (x := (-2)) (by decide)).w (by decide) (by decide))) dX11_again_15
  · have hkb5 : q_T G kb5 = 5 := kp2 kb5 rfl
    refine lv_astore_n (lv' := [(2, .ref kb5), (0, .ref a0), (1, .int i1)]) hx hb dX11_again_8 rfl hl (by decide) rfl (fun ls hl => ?_)
    refine lv_aload_n hx hb dX11_again_9 rfl (lv_at hl 0 rfl) ?_
    refine lv_ifnonnull hx hb dX11_again_10 (tgt := 16) (by decide) ?_
    refine lv_aload_n hx hb dX11_again_16 rfl (lv_at hl 0 rfl) ?_
    refine q_geti hE hW hkb5 rfl q_k1 3 (by decide) rfl (hE.n 9 rfl) dX11_again_17 (fun kx6 ekx6 vkx6 => ?_)
    refine lv_iconst (v := 2) hx hb dX11_again_20 (by decide) ?_
    refine lv_icmp_eq (tgt := 27) hx hb dX11_again_21 (by decide) (fun kc7 => ?_) (fun kc7 => ?_)
    · have kv8 : q_V 2 2 kx6 := q_eq1 (q_all kx6) (q_c (k := 2) (x := 2) (by decide)) kc7 (by decide) (by decide)
      refine lv_aload_n hx hb dX11_again_27 rfl (lv_at hl 1 rfl) ?_
      refine q_gov hW (q_runV (As := []) (rest := []) hE hW (c_X11_remember l G ks3 a0 h0) kw_X11_198 (q_recv hE hW h0 rfl q_k11) rfl hl.1 rfl (Nat.le_of_ble_eq_true rfl) dX11_again_28 ⟨by decide, by decide⟩ ⟨by decide, by decide⟩) (by decide) (fun ks10 H locs kp9 kf11 hW => ?_)
      refine lv_aload_n hx hb dX11_again_31 rfl (lv_at hl 0 rfl) ?_
      refine q_geti hE hW hkb5 rfl q_k1 4 (by decide) rfl (hE.n 12 rfl) dX11_again_32 (fun kx12 ekx12 vkx12 => ?_)
      refine lv_istore_n (lv' := [(3, .int kx12), (2, .ref kb5), (0, .ref a0), (1, .int i1)]) hx hb dX11_again_35 rfl hl (by decide) rfl (fun ls hl => ?_)
      refine lv_aload_n hx hb dX11_again_36 rfl (lv_at hl 1 rfl) ?_
      refine lv_iconst (v := 0) hx hb dX11_again_37 (by decide) ?_
      refine q_puti hE hW hkb5 rfl q_k1 tyX1 tyX1_ok 3 (by decide) rfl (hE.n 9 rfl) rfl rfl rfl ((q_c (k := 0) (x := 0) (by decide)).w (by decide) (by decide)) (by decide) dX11_again_38 (fun H locs ks13 kp14 hW => ?_)
      refine lv_aload_n hx hb dX11_again_41 rfl (lv_at hl 1 rfl) ?_
      refine lv_iconst (v := 0) hx hb dX11_again_42 (by decide) ?_
      refine q_puti hE hW hkb5 rfl q_k1 tyX1 tyX1_ok 4 (by decide) rfl (hE.n 12 rfl) rfl rfl rfl ((q_c (k := 0) (x := 0) (by decide)).w (by decide) (by decide)) (by decide) dX11_again_43 (fun H locs ks15 kp16 hW => ?_)
      refine lv_iload_n hx hb dX11_again_46 rfl (lv_at hl 0 rfl) ?_
      exact q_reti hE hr hlocks hW ((q_all kx12)) dX11_again_47
    · refine lv_bipush (v := (-4)) hx hb dX11_again_24 (by decide) ?_
      exact q_reti hE hr hlocks hW (((q_c (k := (-4)) (x := (-4)) (by decide)).w (by decide) (by decide))) dX11_again_26
set_option maxHeartbeats 4000000 in
set_option maxRecDepth 100000 in
theorem c_X11_send (l : Launch) (G : q_G) (σ : q_S) (a0 : Nat) (h0 : q_T G a0 = 26) (i1 : Int32)  : Met l yX11_send (Cond.code yX11_send cX11_send 3 (some .int) :: wsL_law) (q_Rm 4) (q_Pre G σ [.ref a0, .int i1]) (q_Qi G [5, 6, 7, 9, 10, 12, 26, 29] σ (fun r σ1 => q_V (-2147483648) 2147483647 r)) 0 0 (q_N G) := by
  refine q_ofW (ts := [5, 6, 7, 9, 10, 12, 26, 29]) (by decide) (Nat.le_of_ble_eq_true rfl) ?_
  intro p e s m args below meth c hE hr hlocks hW ls hl
  have hE : q_E G p s m args c cX11_send 3 RX11 := hE
  have hx := hE.1.1
  have hb := hE.1.2.1
  have hl : lv_has ls 3 [(0, .ref a0), (1, .int i1)] := hl
  refine lv_aload_n hx hb dX11_send_0 rfl (lv_at hl 0 rfl) ?_
  refine q_getr hE hW h0 rfl q_k11 5 (by decide) rfl (hE.l wl_35) dX11_send_1 (fun kb1 ekb1 hkb1a hkb1b => ?_)
  have hkb1 : q_T G kb1 = 7 := q_tag hkb1a hkb1b
  refine lv_iload_n hx hb dX11_send_4 rfl (lv_at hl 1 rfl) ?_
  refine q_goq hW (q_runV (As := [.int i1]) (rest := []) hE hW (c_X2_cloudAt l G σ kb1 hkb1 i1) kw_X11_137 (q_recv hE hW hkb1 rfl q_k2) rfl hl.1 rfl (Nat.le_of_ble_eq_true rfl) dX11_send_5 ⟨by decide, by decide⟩ ⟨by decide, by decide⟩) (by decide) (fun ks3 H locs kp2 kf4 hW => ?_) (fun kb5 ks3 H locs kp2 kf4 hW => ?_)
  · refine lv_astore_nN (lv' := [(2, .null), (0, .ref a0), (1, .int i1)]) hx hb dX11_send_8 rfl hl (by decide) rfl (fun ls hl => ?_)
    refine lv_aload_nN hx hb dX11_send_9 rfl (lv_at hl 0 rfl) ?_
    refine lv_ifnonnullN hx hb dX11_send_10 ?_
    refine lv_bipush (v := (-2)) hx hb dX11_send_13 (by decide) ?_
    exact q_reti hE hr hlocks hW (((q_c (k := (-2)) (x := (-2)) (by decide)).w (by decide) (by decide))) dX11_send_15
  · have hkb5 : q_T G kb5 = 5 := kp2 kb5 rfl
    refine lv_astore_n (lv' := [(2, .ref kb5), (0, .ref a0), (1, .int i1)]) hx hb dX11_send_8 rfl hl (by decide) rfl (fun ls hl => ?_)
    refine lv_aload_n hx hb dX11_send_9 rfl (lv_at hl 0 rfl) ?_
    refine lv_ifnonnull hx hb dX11_send_10 (tgt := 16) (by decide) ?_
    refine lv_aload_n hx hb dX11_send_16 rfl (lv_at hl 0 rfl) ?_
    refine q_goi hW (q_runV (As := []) (rest := []) hE hW (c_X1_isClean l G ks3 kb5 hkb5) kw_X11_167 (q_recv hE hW hkb5 rfl q_k1) rfl hl.1 rfl (Nat.le_of_ble_eq_true rfl) dX11_send_17 ⟨by decide, by decide⟩ ⟨by decide, by decide⟩) (by decide) (fun kx9 ks7 H locs kp6 kf8 hW => ?_)
    refine lv_if_eq (tgt := 30) hx hb dX11_send_20 (by decide) (fun kc10 => ?_) (fun kc10 => ?_)
    · have kv11 : q_V 0 0 kx9 := q_eq1 kp6 (q_c (k := 0) (x := 0) (by decide)) kc10 (by decide) (by decide)
      refine lv_bipush (v := (-4)) hx hb dX11_send_30 (by decide) ?_
      exact q_reti hE hr hlocks hW (((q_c (k := (-4)) (x := (-4)) (by decide)).w (by decide) (by decide))) dX11_send_32
    · have kv12 : q_V 1 1 kx9 := q_ne1 kp6 (q_c (k := 0) (x := 0) (by decide)) kc10 (by decide)
      refine lv_aload_n hx hb dX11_send_23 rfl (lv_at hl 0 rfl) ?_
      refine q_goi hW (q_runV (As := []) (rest := []) hE hW (c_X1_isDry l G ks7 kb5 hkb5) kw_X11_171 (q_recv hE hW hkb5 rfl q_k1) rfl hl.1 rfl (Nat.le_of_ble_eq_true rfl) dX11_send_24 ⟨by decide, by decide⟩ ⟨by decide, by decide⟩) (by decide) (fun kx16 ks14 H locs kp13 kf15 hW => ?_)
      refine lv_if_ne (tgt := 33) hx hb dX11_send_27 (by decide) (fun kc17 => ?_) (fun kc17 => ?_)
      · have kv18 : q_V 1 1 kx16 := q_ne1 kp13 (q_c (k := 0) (x := 0) (by decide)) kc17 (by decide)
        refine lv_aload_n hx hb dX11_send_33 rfl (lv_at hl 1 rfl) ?_
        refine q_gov hW (q_runV (As := []) (rest := []) hE hW (c_X11_remember l G ks14 a0 h0) kw_X11_198 (q_recv hE hW h0 rfl q_k11) rfl hl.1 rfl (Nat.le_of_ble_eq_true rfl) dX11_send_34 ⟨by decide, by decide⟩ ⟨by decide, by decide⟩) (by decide) (fun ks20 H locs kp19 kf21 hW => ?_)
        refine lv_aload_n hx hb dX11_send_37 rfl (lv_at hl 0 rfl) ?_
        refine lv_iconst (v := 3) hx hb dX11_send_38 (by decide) ?_
        refine q_puti hE hW hkb5 rfl q_k1 tyX1 tyX1_ok 3 (by decide) rfl (hE.n 9 rfl) rfl rfl rfl ((q_c (k := 3) (x := 3) (by decide)).w (by decide) (by decide)) (by decide) dX11_send_39 (fun H locs ks22 kp23 hW => ?_)
        refine lv_aload_n hx hb dX11_send_42 rfl (lv_at hl 0 rfl) ?_
        refine lv_iconst (v := 0) hx hb dX11_send_43 (by decide) ?_
        refine q_puti hE hW hkb5 rfl q_k1 tyX1 tyX1_ok 4 (by decide) rfl (hE.n 12 rfl) rfl rfl rfl ((q_c (k := 0) (x := 0) (by decide)).w (by decide) (by decide)) (by decide) dX11_send_44 (fun H locs ks24 kp25 hW => ?_)
        refine lv_iconst (v := 0) hx hb dX11_send_47 (by decide) ?_
        refine lv_aload_n hx hb dX11_send_48 rfl (lv_at hl 1 rfl) ?_
        refine q_getr hE hW h0 rfl q_k11 5 (by decide) rfl (hE.l wl_35) dX11_send_49 (fun kb26 ekb26 hkb26a hkb26b => ?_)
        have hkb26 : q_T G kb26 = 7 := q_tag hkb26a hkb26b
        refine q_geti hE hW hkb26 rfl q_k2 8 (by decide) rfl (hE.n 34 rfl) dX11_send_52 (fun kx27 ekx27 vkx27 => ?_)
        refine lv_aload_n hx hb dX11_send_55 rfl (lv_at hl 0 rfl) ?_
        refine q_geti hE hW hkb5 rfl q_k1 2 (by decide) rfl (hE.n 8 rfl) dX11_send_56 (fun kx28 ekx28 vkx28 => ?_)
        refine lv_isub hx hb dX11_send_59 ?_
        refine lv_topi (fun kx29 ekx29 => ?_)
        refine va_mmax hx hb (hE.1.2.2.1.trans hl.1.symm) hE.1.2.2.2.1 (hE.w wl_636) (hE.w wl_581) (hE.w wl_582) (hE.w wl_583) (by decide) (Nat.le_of_ble_eq_true rfl) (by decide) (by decide) dX11_send_60 ?_
        refine lv_topi (fun kx30 ekx30 => ?_)
        have vkx30 : q_V 0 2147483647 kx30 := q_maxV (q_c (k := 0) (x := 0) (by decide)) (q_all kx29) ekx30 (by decide) (by decide)
        exact q_reti hE hr hlocks hW ((vkx30.w (by decide) (by decide))) dX11_send_63
      · have kv31 : q_V 0 0 kx16 := q_eq1 kp13 (q_c (k := 0) (x := 0) (by decide)) kc17 (by decide) (by decide)
        refine lv_bipush (v := (-4)) hx hb dX11_send_30 (by decide) ?_
        exact q_reti hE hr hlocks hW (((q_c (k := (-4)) (x := (-4)) (by decide)).w (by decide) (by decide))) dX11_send_32
set_option maxHeartbeats 4000000 in
set_option maxRecDepth 100000 in
theorem c_X11_soap (l : Launch) (G : q_G) (σ : q_S) (a0 : Nat) (h0 : q_T G a0 = 26) (i1 : Int32)  : Met l yX11_soap (Cond.code yX11_soap cX11_soap 2 (some .int) :: wsL_law) (q_Rm 4) (q_Pre G σ [.ref a0, .int i1]) (q_Qi G [5, 6, 7, 9, 10, 12, 26, 29] σ (fun r σ1 => q_V (-2147483648) 2147483647 r)) 0 0 (q_N G) := by
  refine q_ofW (ts := [5, 6, 7, 9, 10, 12, 26, 29]) (by decide) (Nat.le_of_ble_eq_true rfl) ?_
  intro p e s m args below meth c hE hr hlocks hW ls hl
  have hE : q_E G p s m args c cX11_soap 2 RX11 := hE
  have hx := hE.1.1
  have hb := hE.1.2.1
  have hl : lv_has ls 2 [(0, .ref a0), (1, .int i1)] := hl
  refine lv_iload_n hx hb dX11_soap_0 rfl (lv_at hl 1 rfl) ?_
  refine lv_iconst (v := 1) hx hb dX11_soap_1 (by decide) ?_
  refine lv_icmp_lt (tgt := 11) hx hb dX11_soap_2 (by decide) (fun kc1 => ?_) (fun kc1 => ?_)
  · have kv2 : q_V (-2147483648) 0 i1 := (q_lt1 (q_all i1) (q_c (k := 1) (x := 1) (by decide)) kc1).w (by decide) (by decide)
    refine lv_bipush (v := (-3)) hx hb dX11_soap_11 (by decide) ?_
    exact q_reti hE hr hlocks hW (((q_c (k := (-3)) (x := (-3)) (by decide)).w (by decide) (by decide))) dX11_soap_13
  · have kv3 : q_V 1 2147483647 i1 := (q_le2 (q_c (k := 1) (x := 1) (by decide)) (q_all i1) (Int32.not_lt.mp kc1)).w (by decide) (by decide)
    refine lv_iload_n hx hb dX11_soap_5 rfl (lv_at hl 1 rfl) ?_
    refine lv_bipush (v := 20) hx hb dX11_soap_6 (by decide) ?_
    refine lv_icmp_le (tgt := 14) hx hb dX11_soap_8 (by decide) (fun kc4 => ?_) (fun kc4 => ?_)
    · have kv5 : q_V 1 20 i1 := (q_le1 kv3 (q_c (k := 20) (x := 20) (by decide)) kc4).w (by decide) (by decide)
      refine lv_aload_n hx hb dX11_soap_14 rfl (lv_at hl 0 rfl) ?_
      refine q_getr hE hW h0 rfl q_k11 5 (by decide) rfl (hE.l wl_35) dX11_soap_15 (fun kb6 ekb6 hkb6a hkb6b => ?_)
      have hkb6 : q_T G kb6 = 7 := q_tag hkb6a hkb6b
      refine q_geti hE hW hkb6 rfl q_k2 6 (by decide) rfl (hE.n 30 rfl) dX11_soap_18 (fun kx7 ekx7 vkx7 => ?_)
      refine lv_iload_n hx hb dX11_soap_21 rfl (lv_at hl 1 rfl) ?_
      refine lv_iadd hx hb dX11_soap_22 ?_
      refine lv_topi (fun kx8 ekx8 => ?_)
      refine lv_bipush (v := 99) hx hb dX11_soap_23 (by decide) ?_
      refine lv_icmp_le (tgt := 31) hx hb dX11_soap_25 (by decide) (fun kc9 => ?_) (fun kc9 => ?_)
      · have kv10 : q_V (-2147483648) 99 kx8 := (q_le1 (q_all kx8) (q_c (k := 99) (x := 99) (by decide)) kc9).w (by decide) (by decide)
        refine lv_aload_n hx hb dX11_soap_31 rfl (lv_at hl 0 rfl) ?_
        refine q_gov hW (q_runV (As := []) (rest := []) hE hW (c_X11_remember l G σ a0 h0) kw_X11_198 (q_recv hE hW h0 rfl q_k11) rfl hl.1 rfl (Nat.le_of_ble_eq_true rfl) dX11_soap_32 ⟨by decide, by decide⟩ ⟨by decide, by decide⟩) (by decide) (fun ks12 H locs kp11 kf13 hW => ?_)
        refine lv_aload_n hx hb dX11_soap_35 rfl (lv_at hl 0 rfl) ?_
        refine q_getr hE hW h0 rfl q_k11 5 (by decide) rfl (hE.l wl_35) dX11_soap_36 (fun kb14 ekb14 hkb14a hkb14b => ?_)
        have hkb14 : q_T G kb14 = 7 := q_tag hkb14a hkb14b
        refine lv_dup hx hb dX11_soap_39 rfl ?_
        refine q_geti hE hW hkb14 rfl q_k2 6 (by decide) rfl (hE.n 30 rfl) dX11_soap_40 (fun kx15 ekx15 vkx15 => ?_)
        refine lv_iload_n hx hb dX11_soap_43 rfl (lv_at hl 1 rfl) ?_
        refine lv_iadd hx hb dX11_soap_44 ?_
        refine lv_topi (fun kx16 ekx16 => ?_)
        refine q_puti hE hW hkb14 rfl q_k2 tyX2 tyX2_ok 6 (by decide) rfl (hE.n 30 rfl) rfl rfl rfl (q_all kx16) (by decide) dX11_soap_45 (fun H locs ks17 kp18 hW => ?_)
        refine lv_aload_n hx hb dX11_soap_48 rfl (lv_at hl 0 rfl) ?_
        refine q_getr hE hW h0 rfl q_k11 5 (by decide) rfl (hE.l wl_35) dX11_soap_49 (fun kb19 ekb19 hkb19a hkb19b => ?_)
        obtain rfl : kb14 = kb19 := ((kp18.2.2.1 _ _).trans ekb14).symm.trans ekb19
        refine q_geti hE hW hkb14 rfl q_k2 6 (by decide) rfl (hE.n 30 rfl) dX11_soap_52 (fun kx20 ekx20 vkx20 => ?_)
        obtain rfl : kx16 = kx20 := kp18.1.symm.trans ekx20
        exact q_reti hE hr hlocks hW ((q_all kx16)) dX11_soap_55
      · have kv21 : q_V 100 2147483647 kx8 := (q_lt2 (q_c (k := 99) (x := 99) (by decide)) (q_all kx8) (Int32.not_le.mp kc9)).w (by decide) (by decide)
        refine lv_bipush (v := (-5)) hx hb dX11_soap_28 (by decide) ?_
        exact q_reti hE hr hlocks hW (((q_c (k := (-5)) (x := (-5)) (by decide)).w (by decide) (by decide))) dX11_soap_30
    · have kv22 : q_V 21 2147483647 i1 := (q_lt2 (q_c (k := 20) (x := 20) (by decide)) kv3 (Int32.not_le.mp kc4)).w (by decide) (by decide)
      refine lv_bipush (v := (-3)) hx hb dX11_soap_11 (by decide) ?_
      exact q_reti hE hr hlocks hW (((q_c (k := (-3)) (x := (-3)) (by decide)).w (by decide) (by decide))) dX11_soap_13
set_option maxHeartbeats 4000000 in
set_option maxRecDepth 100000 in
theorem c_X11_hour (l : Launch) (G : q_G) (σ : q_S) (a0 : Nat) (h0 : q_T G a0 = 26) (i1 : Int32)  : Met l yX11_hour (Cond.code yX11_hour cX11_hour 3 (some .int) :: wsL_law) (q_Rm 6) (q_Pre G σ [.ref a0, .int i1]) (q_Qi G [5, 6, 7, 9, 10, 12, 26, 29] σ (fun r σ1 => q_V (-2147483648) 2147483647 r)) 0 0 (q_N G) := by
  refine q_ofW (ts := [5, 6, 7, 9, 10, 12, 26, 29]) (by decide) (Nat.le_of_ble_eq_true rfl) ?_
  intro p e s m args below meth c hE hr hlocks hW ls hl
  have hE : q_E G p s m args c cX11_hour 3 RX11 := hE
  have hx := hE.1.1
  have hb := hE.1.2.1
  have hl : lv_has ls 3 [(0, .ref a0), (1, .int i1)] := hl
  have lp38a : ∀ (n38a : Nat) (ks3 : q_S) (H : Heap) (locs : List Loc) (kv1 : q_V 1 12 i1) (kx2 : Int32) (vkx2 : q_V 0 12 kx2) (hW : q_Wd G [5, 6, 7, 9, 10, 12, 26, 29] σ s.heap ks3 H locs) (ls : Array Slot) (hl : lv_has ls 3 [(0, .ref a0), (1, .int i1), (2, .int kx2)]), (12 - kx2.toInt).toNat < n38a → W p l e (q_Rm 6) s m args below meth c H locs 0 0 (MQ below (q_Qi G [5, 6, 7, 9, 10, 12, 26, 29] σ (fun r σ1 => q_V (-2147483648) 2147483647 r)) args s 0 0 (q_N G)) (F0 m 38 ls []) := by
    intro n38a
    induction n38a with
    | zero => intro _ _ _ _ _ _ _ _ _; exact fun h => absurd h (Nat.not_lt_zero _)
    | succ n38a ih38a =>
      intro ks3 H locs kv1 kx2 vkx2 hW ls hl hm38a
      refine lv_iload_n hx hb dX11_hour_38 rfl (lv_at hl 2 rfl) ?_
      refine lv_iload_n hx hb dX11_hour_39 rfl (lv_at hl 1 rfl) ?_
      refine lv_icmp_ge (tgt := 56) hx hb dX11_hour_40 (by decide) (fun kc4 => ?_) (fun kc4 => ?_)
      · have kv5 : q_V 1 12 kx2 := (q_le2 kv1 vkx2 kc4).w (by decide) (by decide)
        refine lv_aload_n hx hb dX11_hour_56 rfl (lv_at hl 0 rfl) ?_
        refine q_getr hE hW h0 rfl q_k11 5 (by decide) rfl (hE.l wl_35) dX11_hour_57 (fun kb6 ekb6 hkb6a hkb6b => ?_)
        have hkb6 : q_T G kb6 = 7 := q_tag hkb6a hkb6b
        refine q_geti hE hW hkb6 rfl q_k2 8 (by decide) rfl (hE.n 34 rfl) dX11_hour_60 (fun kx7 ekx7 vkx7 => ?_)
        exact q_reti hE hr hlocks hW ((q_all kx7)) dX11_hour_63
      · have kv8 : q_V 0 11 kx2 := (q_lt1 vkx2 kv1 (Int32.not_le.mp kc4)).w (by decide) (by decide)
        refine lv_aload_n hx hb dX11_hour_43 rfl (lv_at hl 0 rfl) ?_
        refine q_getr hE hW h0 rfl q_k11 5 (by decide) rfl (hE.l wl_35) dX11_hour_44 (fun kb9 ekb9 hkb9a hkb9b => ?_)
        have hkb9 : q_T G kb9 = 7 := q_tag hkb9a hkb9b
        refine q_gov hW (q_runV (As := []) (rest := []) hE hW (c_X2_passHour l G ks3 kb9 hkb9) kw_X11_216 (q_recv hE hW hkb9 rfl q_k2) rfl hl.1 rfl (Nat.le_of_ble_eq_true rfl) dX11_hour_47 ⟨by decide, by decide⟩ ⟨by decide, by decide⟩) (by decide) (fun ks11 H locs kp10 kf12 hW => ?_)
        obtain ⟨kx13, ekx13⟩ : ∃ y : Int32, y = kx2 + 1 := ⟨_, rfl⟩
        have vkx13 : q_V 1 12 kx13 := by rw [ekx13]; exact (q_add kv8 (q_c (k := 1) (x := 1) (by decide)) (by decide) (by decide)).w (by decide) (by decide)
        have ikx13 : kx13.toInt = kx2.toInt + 1 := q_incT ekx13 kv8 (by decide) (by decide) (by decide)
        refine lv_iinc (v := kx13) (lv' := [(2, .int kx13), (0, .ref a0), (1, .int i1)]) hx hb dX11_hour_50 hl (k := 2) rfl (by rw [ekx13]; rfl) (by decide) rfl (fun ls hl => ?_)
        refine lv_goto (tgt := 38) hx hb dX11_hour_53 (by decide) ?_
        exact ih38a _ _ _ kv1 kx13 (vkx13.w (by decide) (by decide)) hW ls (lv_sub hl [1, 2, 0] rfl) (Nat.lt_of_lt_of_le (q_up (ikx13) (show q_V 1 12 kx13 from vkx13).2) (Nat.le_of_lt_succ hm38a))
  refine lv_iload_n hx hb dX11_hour_0 rfl (lv_at hl 1 rfl) ?_
  refine lv_iconst (v := 1) hx hb dX11_hour_1 (by decide) ?_
  refine lv_icmp_lt (tgt := 11) hx hb dX11_hour_2 (by decide) (fun kc14 => ?_) (fun kc14 => ?_)
  · have kv15 : q_V (-2147483648) 0 i1 := (q_lt1 (q_all i1) (q_c (k := 1) (x := 1) (by decide)) kc14).w (by decide) (by decide)
    refine lv_bipush (v := (-3)) hx hb dX11_hour_11 (by decide) ?_
    exact q_reti hE hr hlocks hW (((q_c (k := (-3)) (x := (-3)) (by decide)).w (by decide) (by decide))) dX11_hour_13
  · have kv16 : q_V 1 2147483647 i1 := (q_le2 (q_c (k := 1) (x := 1) (by decide)) (q_all i1) (Int32.not_lt.mp kc14)).w (by decide) (by decide)
    refine lv_iload_n hx hb dX11_hour_5 rfl (lv_at hl 1 rfl) ?_
    refine lv_bipush (v := 12) hx hb dX11_hour_6 (by decide) ?_
    refine lv_icmp_le (tgt := 14) hx hb dX11_hour_8 (by decide) (fun kc17 => ?_) (fun kc17 => ?_)
    · have kv18 : q_V 1 12 i1 := (q_le1 kv16 (q_c (k := 12) (x := 12) (by decide)) kc17).w (by decide) (by decide)
      refine lv_aload_n hx hb dX11_hour_14 rfl (lv_at hl 0 rfl) ?_
      refine q_getr hE hW h0 rfl q_k11 5 (by decide) rfl (hE.l wl_35) dX11_hour_15 (fun kb19 ekb19 hkb19a hkb19b => ?_)
      have hkb19 : q_T G kb19 = 7 := q_tag hkb19a hkb19b
      refine q_geti hE hW hkb19 rfl q_k2 8 (by decide) rfl (hE.n 34 rfl) dX11_hour_18 (fun kx20 ekx20 vkx20 => ?_)
      refine lv_iload_n hx hb dX11_hour_21 rfl (lv_at hl 1 rfl) ?_
      refine lv_iadd hx hb dX11_hour_22 ?_
      refine lv_topi (fun kx21 ekx21 => ?_)
      refine lv_sipush (v := 999) hx hb dX11_hour_23 (by decide) ?_
      refine lv_icmp_le (tgt := 32) hx hb dX11_hour_26 (by decide) (fun kc22 => ?_) (fun kc22 => ?_)
      · have kv23 : q_V (-2147483648) 999 kx21 := (q_le1 (q_all kx21) (q_c (k := 999) (x := 999) (by decide)) kc22).w (by decide) (by decide)
        refine lv_aload_n hx hb dX11_hour_32 rfl (lv_at hl 0 rfl) ?_
        refine q_gov hW (q_runV (As := []) (rest := []) hE hW (c_X11_remember l G σ a0 h0) kw_X11_198 (q_recv hE hW h0 rfl q_k11) rfl hl.1 rfl (Nat.le_of_ble_eq_true rfl) dX11_hour_33 ⟨by decide, by decide⟩ ⟨by decide, by decide⟩) (by decide) (fun ks25 H locs kp24 kf26 hW => ?_)
        refine lv_iconst (v := 0) hx hb dX11_hour_36 (by decide) ?_
        refine lv_istore_n (lv' := [(2, .int 0), (0, .ref a0), (1, .int i1)]) hx hb dX11_hour_37 rfl hl (by decide) rfl (fun ls hl => ?_)
        exact lp38a _ _ _ _ kv18 0 ((q_c (k := 0) (x := 0) (by decide)).w (by decide) (by decide)) hW ls (lv_sub hl [1, 2, 0] rfl) (Nat.lt_succ_self _)
      · have kv27 : q_V 1000 2147483647 kx21 := (q_lt2 (q_c (k := 999) (x := 999) (by decide)) (q_all kx21) (Int32.not_le.mp kc22)).w (by decide) (by decide)
        refine lv_bipush (v := (-5)) hx hb dX11_hour_29 (by decide) ?_
        exact q_reti hE hr hlocks hW (((q_c (k := (-5)) (x := (-5)) (by decide)).w (by decide) (by decide))) dX11_hour_31
    · have kv28 : q_V 13 2147483647 i1 := (q_lt2 (q_c (k := 12) (x := 12) (by decide)) kv16 (Int32.not_le.mp kc17)).w (by decide) (by decide)
      refine lv_bipush (v := (-3)) hx hb dX11_hour_11 (by decide) ?_
      exact q_reti hE hr hlocks hW (((q_c (k := (-3)) (x := (-3)) (by decide)).w (by decide) (by decide))) dX11_hour_13
set_option maxHeartbeats 4000000 in
set_option maxRecDepth 100000 in
theorem c_X11_undo (l : Launch) (G : q_G) (σ : q_S) (a0 : Nat) (h0 : q_T G a0 = 26)  : Met l yX11_undo (Cond.code yX11_undo cX11_undo 1 (some .int) :: wsL_law) (q_Rm 3) (q_Pre G σ [.ref a0]) (q_Qi G [5, 6, 7, 9, 10, 12, 26] σ (fun r σ1 => q_V (-2147483648) 2147483647 r)) 0 0 (q_N G) := by
  refine q_ofW (ts := [5, 6, 7, 9, 10, 12, 26]) (by decide) (Nat.le_of_ble_eq_true rfl) ?_
  intro p e s m args below meth c hE hr hlocks hW ls hl
  have hE : q_E G p s m args c cX11_undo 1 RX11 := hE
  have hx := hE.1.1
  have hb := hE.1.2.1
  have hl : lv_has ls 1 [(0, .ref a0)] := hl
  refine lv_aload_n hx hb dX11_undo_0 rfl (lv_at hl 0 rfl) ?_
  refine q_geti hE hW h0 rfl q_k11 10 (by decide) rfl (hE.l wl_435) dX11_undo_1 (fun kx1 ekx1 vkx1 => ?_)
  refine lv_iconst (v := 1) hx hb dX11_undo_4 (by decide) ?_
  refine lv_icmp_lt (tgt := 17) hx hb dX11_undo_5 (by decide) (fun kc2 => ?_) (fun kc2 => ?_)
  · have kv3 : q_V (-2147483648) 0 kx1 := (q_lt1 (q_all kx1) (q_c (k := 1) (x := 1) (by decide)) kc2).w (by decide) (by decide)
    refine lv_bipush (v := (-4)) hx hb dX11_undo_17 (by decide) ?_
    exact q_reti hE hr hlocks hW (((q_c (k := (-4)) (x := (-4)) (by decide)).w (by decide) (by decide))) dX11_undo_19
  · have kv4 : q_V 1 2147483647 kx1 := (q_le2 (q_c (k := 1) (x := 1) (by decide)) (q_all kx1) (Int32.not_lt.mp kc2)).w (by decide) (by decide)
    refine lv_aload_n hx hb dX11_undo_8 rfl (lv_at hl 0 rfl) ?_
    refine q_geti hE hW h0 rfl q_k11 10 (by decide) rfl (hE.l wl_435) dX11_undo_9 (fun kx5 ekx5 vkx5 => ?_)
    obtain rfl : kx1 = kx5 := ekx1.symm.trans ekx5
    refine lv_bipush (v := 8) hx hb dX11_undo_12 (by decide) ?_
    refine lv_icmp_le (tgt := 20) hx hb dX11_undo_14 (by decide) (fun kc6 => ?_) (fun kc6 => ?_)
    · have kv7 : q_V 1 8 kx1 := (q_le1 kv4 (q_c (k := 8) (x := 8) (by decide)) kc6).w (by decide) (by decide)
      refine lv_aload_n hx hb dX11_undo_20 rfl (lv_at hl 0 rfl) ?_
      refine lv_dup hx hb dX11_undo_21 rfl ?_
      refine q_geti hE hW h0 rfl q_k11 10 (by decide) rfl (hE.l wl_435) dX11_undo_22 (fun kx8 ekx8 vkx8 => ?_)
      obtain rfl : kx1 = kx8 := ekx1.symm.trans ekx8
      refine lv_iconst (v := 1) hx hb dX11_undo_25 (by decide) ?_
      refine lv_isub hx hb dX11_undo_26 ?_
      refine lv_topi (fun kx9 ekx9 => ?_)
      have vkx9 : q_V 0 7 kx9 := by rw [ekx9]; exact (q_sub kv7 (q_c (k := 1) (x := 1) (by decide)) (by decide) (by decide)).w (by decide) (by decide)
      refine q_puti hE hW h0 rfl q_k11 tyX11 tyX11_ok 10 (by decide) rfl (hE.l wl_435) rfl rfl rfl (vkx9.w (by decide) (by decide)) (by decide) dX11_undo_27 (fun H locs ks10 kp11 hW => ?_)
      refine lv_aload_n hx hb dX11_undo_30 rfl (lv_at hl 0 rfl) ?_
      refine q_getr hE hW h0 rfl q_k11 5 (by decide) rfl (hE.l wl_35) dX11_undo_31 (fun kb12 ekb12 hkb12a hkb12b => ?_)
      have hkb12 : q_T G kb12 = 7 := q_tag hkb12a hkb12b
      refine lv_aload_n hx hb dX11_undo_34 rfl (lv_at hl 0 rfl) ?_
      refine q_getr hE hW h0 rfl q_k11 9 (by decide) rfl (hE.l wl_47) dX11_undo_35 (fun kb13 ekb13 hkb13a hkb13b => ?_)
      have hkb13 : q_T G kb13 = 29 := q_tag hkb13a hkb13b
      refine lv_aload_n hx hb dX11_undo_38 rfl (lv_at hl 0 rfl) ?_
      refine q_geti hE hW h0 rfl q_k11 10 (by decide) rfl (hE.l wl_435) dX11_undo_39 (fun kx14 ekx14 vkx14 => ?_)
      obtain rfl : kx9 = kx14 := kp11.1.symm.trans ekx14
      refine q_aald hE hW hkb13 rfl (q_in vkx9 (by decide) (by decide)) dX11_undo_42 (fun kb15 ekb15 hkb15a hkb15b => ?_)
      have hkb15 : q_T G kb15 = 7 := q_tag hkb15a hkb15b
      refine q_gov hW (q_runV (As := [.ref kb15]) (rest := []) hE hW (c_X2_copyFrom l G ks10 kb12 hkb12 kb15 hkb15) kw_X11_121 (q_recv hE hW hkb12 rfl q_k2) rfl hl.1 rfl (Nat.le_of_ble_eq_true rfl) dX11_undo_43 ⟨by decide, by decide⟩ ⟨by decide, by decide⟩) (by decide) (fun ks17 H locs kp16 kf18 hW => ?_)
      refine lv_aload_n hx hb dX11_undo_46 rfl (lv_at hl 0 rfl) ?_
      refine q_geti hE hW h0 rfl q_k11 10 (by decide) rfl (hE.l wl_435) dX11_undo_47 (fun kx19 ekx19 vkx19 => ?_)
      obtain rfl : kx9 = kx19 := ((kf18.I _ h0 (by decide)).trans kp11.1).symm.trans ekx19
      exact q_reti hE hr hlocks hW ((vkx9.w (by decide) (by decide))) dX11_undo_50
    · have kv20 : q_V 9 2147483647 kx1 := (q_lt2 (q_c (k := 8) (x := 8) (by decide)) kv4 (Int32.not_le.mp kc6)).w (by decide) (by decide)
      refine lv_bipush (v := (-4)) hx hb dX11_undo_17 (by decide) ?_
      exact q_reti hE hr hlocks hW (((q_c (k := (-4)) (x := (-4)) (by decide)).w (by decide) (by decide))) dX11_undo_19
set_option maxHeartbeats 4000000 in
set_option maxRecDepth 100000 in
theorem c_X11_keep (l : Launch) (G : q_G) (σ : q_S) (a0 : Nat) (h0 : q_T G a0 = 26) (i1 : Int32)  : Met l yX11_keep (Cond.code yX11_keep cX11_keep 2 (some .int) :: wsL_law) (q_Rm 3) (q_Pre G σ [.ref a0, .int i1]) (q_Qi G [5, 6, 7, 9, 10, 12, 13, 14, 32] σ (fun r σ1 => q_V (-2147483648) 2147483647 r)) 0 0 (q_N G) := by
  refine q_ofW (ts := [5, 6, 7, 9, 10, 12, 13, 14, 32]) (by decide) (Nat.le_of_ble_eq_true rfl) ?_
  intro p e s m args below meth c hE hr hlocks hW ls hl
  have hE : q_E G p s m args c cX11_keep 2 RX11 := hE
  have hx := hE.1.1
  have hb := hE.1.2.1
  have hl : lv_has ls 2 [(0, .ref a0), (1, .int i1)] := hl
  refine lv_iload_n hx hb dX11_keep_0 rfl (lv_at hl 1 rfl) ?_
  refine lv_if_lt (tgt := 9) hx hb dX11_keep_1 (by decide) (fun kc1 => ?_) (fun kc1 => ?_)
  · have kv2 : q_V (-2147483648) (-1) i1 := (q_lt1 (q_all i1) (q_c (k := 0) (x := 0) (by decide)) kc1).w (by decide) (by decide)
    refine lv_bipush (v := (-2)) hx hb dX11_keep_9 (by decide) ?_
    exact q_reti hE hr hlocks hW (((q_c (k := (-2)) (x := (-2)) (by decide)).w (by decide) (by decide))) dX11_keep_11
  · have kv3 : q_V 0 2147483647 i1 := (q_le2 (q_c (k := 0) (x := 0) (by decide)) (q_all i1) (Int32.not_lt.mp kc1)).w (by decide) (by decide)
    refine lv_iload_n hx hb dX11_keep_4 rfl (lv_at hl 1 rfl) ?_
    refine lv_iconst (v := 2) hx hb dX11_keep_5 (by decide) ?_
    refine lv_icmp_lt (tgt := 12) hx hb dX11_keep_6 (by decide) (fun kc4 => ?_) (fun kc4 => ?_)
    · have kv5 : q_V 0 1 i1 := (q_lt1 kv3 (q_c (k := 2) (x := 2) (by decide)) kc4).w (by decide) (by decide)
      refine lv_aload_n hx hb dX11_keep_12 rfl (lv_at hl 0 rfl) ?_
      refine q_getr hE hW h0 rfl q_k11 11 (by decide) rfl (hE.l wl_48) dX11_keep_13 (fun kb6 ekb6 hkb6a hkb6b => ?_)
      have hkb6 : q_T G kb6 = 30 := q_tag hkb6a hkb6b
      refine lv_iload_n hx hb dX11_keep_16 rfl (lv_at hl 1 rfl) ?_
      refine q_aald hE hW hkb6 rfl (q_in kv5 (by decide) (by decide)) dX11_keep_17 (fun kb7 ekb7 hkb7a hkb7b => ?_)
      have hkb7 : q_T G kb7 = 7 := q_tag hkb7a hkb7b
      refine lv_aload_n hx hb dX11_keep_18 rfl (lv_at hl 0 rfl) ?_
      refine q_getr hE hW h0 rfl q_k11 5 (by decide) rfl (hE.l wl_35) dX11_keep_19 (fun kb8 ekb8 hkb8a hkb8b => ?_)
      have hkb8 : q_T G kb8 = 7 := q_tag hkb8a hkb8b
      refine q_gov hW (q_runV (As := [.ref kb8]) (rest := []) hE hW (c_X2_copyFrom l G σ kb7 hkb7 kb8 hkb8) kw_X11_121 (q_recv hE hW hkb7 rfl q_k2) rfl hl.1 rfl (Nat.le_of_ble_eq_true rfl) dX11_keep_22 ⟨by decide, by decide⟩ ⟨by decide, by decide⟩) (by decide) (fun ks10 H locs kp9 kf11 hW => ?_)
      refine lv_aload_n hx hb dX11_keep_25 rfl (lv_at hl 0 rfl) ?_
      refine q_getr hE hW h0 rfl q_k11 12 (by decide) rfl (hE.l wl_49) dX11_keep_26 (fun kb12 ekb12 hkb12a hkb12b => ?_)
      have hkb12 : q_T G kb12 = 31 := q_tag hkb12a hkb12b
      refine lv_iload_n hx hb dX11_keep_29 rfl (lv_at hl 1 rfl) ?_
      refine q_aald hE hW hkb12 rfl (q_in kv5 (by decide) (by decide)) dX11_keep_30 (fun kb13 ekb13 hkb13a hkb13b => ?_)
      have hkb13 : q_T G kb13 = 13 := q_tag hkb13a hkb13b
      refine lv_aload_n hx hb dX11_keep_31 rfl (lv_at hl 0 rfl) ?_
      refine q_getr hE hW h0 rfl q_k11 1 (by decide) rfl (hE.l wl_29) dX11_keep_32 (fun kb14 ekb14 hkb14a hkb14b => ?_)
      have hkb14 : q_T G kb14 = 13 := q_tag hkb14a hkb14b
      refine q_gov hW (q_runV (As := [.ref kb14]) (rest := []) hE hW (c_X8_copyFrom l G ks10 kb13 hkb13 kb14 hkb14) kw_X11_219 (q_recv hE hW hkb13 rfl q_k8) rfl hl.1 rfl (Nat.le_of_ble_eq_true rfl) dX11_keep_35 ⟨by decide, by decide⟩ ⟨by decide, by decide⟩) (by decide) (fun ks16 H locs kp15 kf17 hW => ?_)
      refine lv_aload_n hx hb dX11_keep_38 rfl (lv_at hl 0 rfl) ?_
      refine q_getr hE hW h0 rfl q_k11 13 (by decide) rfl (hE.l wl_51) dX11_keep_39 (fun kb18 ekb18 hkb18a hkb18b => ?_)
      have hkb18 : q_T G kb18 = 32 := q_tag hkb18a hkb18b
      refine lv_iload_n hx hb dX11_keep_42 rfl (lv_at hl 1 rfl) ?_
      refine lv_iconst (v := 1) hx hb dX11_keep_43 (by decide) ?_
      refine q_zast hE hW hkb18 rfl (q_in kv5 (by decide) (by decide)) (q_narz ((q_c (k := 1) (x := 1) (by decide)).w (by decide) (by decide))) ((q_c (k := 1) (x := 1) (by decide)).w (by decide) (by decide)) (by decide) dX11_keep_44 (fun H locs ks19 kp20 hW => ?_)
      refine lv_aload_n hx hb dX11_keep_45 rfl (lv_at hl 0 rfl) ?_
      refine q_getr hE hW h0 rfl q_k11 5 (by decide) rfl (hE.l wl_35) dX11_keep_46 (fun kb21 ekb21 hkb21a hkb21b => ?_)
      obtain rfl : kb8 = kb21 := ((((kp20.2.2.1 _ _).trans (kf17.R _ h0 (by decide))).trans (kf11.R _ h0 (by decide))).trans ekb8).symm.trans ekb21
      refine q_geti hE hW hkb8 rfl q_k2 8 (by decide) rfl (hE.n 34 rfl) dX11_keep_49 (fun kx22 ekx22 vkx22 => ?_)
      exact q_reti hE hr hlocks hW ((q_all kx22)) dX11_keep_52
    · have kv23 : q_V 2 2147483647 i1 := (q_le2 (q_c (k := 2) (x := 2) (by decide)) kv3 (Int32.not_lt.mp kc4)).w (by decide) (by decide)
      refine lv_bipush (v := (-2)) hx hb dX11_keep_9 (by decide) ?_
      exact q_reti hE hr hlocks hW (((q_c (k := (-2)) (x := (-2)) (by decide)).w (by decide) (by decide))) dX11_keep_11
set_option maxHeartbeats 4000000 in
set_option maxRecDepth 100000 in
theorem c_X11_back (l : Launch) (G : q_G) (σ : q_S) (a0 : Nat) (h0 : q_T G a0 = 26) (i1 : Int32)  : Met l yX11_back (Cond.code yX11_back cX11_back 2 (some .int) :: wsL_law) (q_Rm 3) (q_Pre G σ [.ref a0, .int i1]) (q_Qi G [5, 6, 7, 9, 10, 12, 13, 14, 26] σ (fun r σ1 => q_V (-2147483648) 2147483647 r)) 0 0 (q_N G) := by
  refine q_ofW (ts := [5, 6, 7, 9, 10, 12, 13, 14, 26]) (by decide) (Nat.le_of_ble_eq_true rfl) ?_
  intro p e s m args below meth c hE hr hlocks hW ls hl
  have hE : q_E G p s m args c cX11_back 2 RX11 := hE
  have hx := hE.1.1
  have hb := hE.1.2.1
  have hl : lv_has ls 2 [(0, .ref a0), (1, .int i1)] := hl
  refine lv_iload_n hx hb dX11_back_0 rfl (lv_at hl 1 rfl) ?_
  refine lv_if_lt (tgt := 9) hx hb dX11_back_1 (by decide) (fun kc1 => ?_) (fun kc1 => ?_)
  · have kv2 : q_V (-2147483648) (-1) i1 := (q_lt1 (q_all i1) (q_c (k := 0) (x := 0) (by decide)) kc1).w (by decide) (by decide)
    refine lv_bipush (v := (-2)) hx hb dX11_back_9 (by decide) ?_
    exact q_reti hE hr hlocks hW (((q_c (k := (-2)) (x := (-2)) (by decide)).w (by decide) (by decide))) dX11_back_11
  · have kv3 : q_V 0 2147483647 i1 := (q_le2 (q_c (k := 0) (x := 0) (by decide)) (q_all i1) (Int32.not_lt.mp kc1)).w (by decide) (by decide)
    refine lv_iload_n hx hb dX11_back_4 rfl (lv_at hl 1 rfl) ?_
    refine lv_iconst (v := 2) hx hb dX11_back_5 (by decide) ?_
    refine lv_icmp_lt (tgt := 12) hx hb dX11_back_6 (by decide) (fun kc4 => ?_) (fun kc4 => ?_)
    · have kv5 : q_V 0 1 i1 := (q_lt1 kv3 (q_c (k := 2) (x := 2) (by decide)) kc4).w (by decide) (by decide)
      refine lv_aload_n hx hb dX11_back_12 rfl (lv_at hl 0 rfl) ?_
      refine q_getr hE hW h0 rfl q_k11 13 (by decide) rfl (hE.l wl_51) dX11_back_13 (fun kb6 ekb6 hkb6a hkb6b => ?_)
      have hkb6 : q_T G kb6 = 32 := q_tag hkb6a hkb6b
      refine lv_iload_n hx hb dX11_back_16 rfl (lv_at hl 1 rfl) ?_
      refine q_zald hE hW hkb6 rfl (q_in kv5 (by decide) (by decide)) dX11_back_17 (fun kx7 ekx7 gkx7 => ?_)
      have vkx7 : q_V 0 1 kx7 := gkx7
      refine lv_if_ne (tgt := 24) hx hb dX11_back_18 (by decide) (fun kc8 => ?_) (fun kc8 => ?_)
      · have kv9 : q_V 1 1 kx7 := q_ne1 vkx7 (q_c (k := 0) (x := 0) (by decide)) kc8 (by decide)
        refine lv_aload_n hx hb dX11_back_24 rfl (lv_at hl 0 rfl) ?_
        refine q_getr hE hW h0 rfl q_k11 5 (by decide) rfl (hE.l wl_35) dX11_back_25 (fun kb10 ekb10 hkb10a hkb10b => ?_)
        have hkb10 : q_T G kb10 = 7 := q_tag hkb10a hkb10b
        refine lv_aload_n hx hb dX11_back_28 rfl (lv_at hl 0 rfl) ?_
        refine q_getr hE hW h0 rfl q_k11 11 (by decide) rfl (hE.l wl_48) dX11_back_29 (fun kb11 ekb11 hkb11a hkb11b => ?_)
        have hkb11 : q_T G kb11 = 30 := q_tag hkb11a hkb11b
        refine lv_iload_n hx hb dX11_back_32 rfl (lv_at hl 1 rfl) ?_
        refine q_aald hE hW hkb11 rfl (q_in kv5 (by decide) (by decide)) dX11_back_33 (fun kb12 ekb12 hkb12a hkb12b => ?_)
        have hkb12 : q_T G kb12 = 7 := q_tag hkb12a hkb12b
        refine q_gov hW (q_runV (As := [.ref kb12]) (rest := []) hE hW (c_X2_copyFrom l G σ kb10 hkb10 kb12 hkb12) kw_X11_121 (q_recv hE hW hkb10 rfl q_k2) rfl hl.1 rfl (Nat.le_of_ble_eq_true rfl) dX11_back_34 ⟨by decide, by decide⟩ ⟨by decide, by decide⟩) (by decide) (fun ks14 H locs kp13 kf15 hW => ?_)
        refine lv_aload_n hx hb dX11_back_37 rfl (lv_at hl 0 rfl) ?_
        refine q_getr hE hW h0 rfl q_k11 1 (by decide) rfl (hE.l wl_29) dX11_back_38 (fun kb16 ekb16 hkb16a hkb16b => ?_)
        have hkb16 : q_T G kb16 = 13 := q_tag hkb16a hkb16b
        refine lv_aload_n hx hb dX11_back_41 rfl (lv_at hl 0 rfl) ?_
        refine q_getr hE hW h0 rfl q_k11 12 (by decide) rfl (hE.l wl_49) dX11_back_42 (fun kb17 ekb17 hkb17a hkb17b => ?_)
        have hkb17 : q_T G kb17 = 31 := q_tag hkb17a hkb17b
        refine lv_iload_n hx hb dX11_back_45 rfl (lv_at hl 1 rfl) ?_
        refine q_aald hE hW hkb17 rfl (q_in kv5 (by decide) (by decide)) dX11_back_46 (fun kb18 ekb18 hkb18a hkb18b => ?_)
        have hkb18 : q_T G kb18 = 13 := q_tag hkb18a hkb18b
        refine q_gov hW (q_runV (As := [.ref kb18]) (rest := []) hE hW (c_X8_copyFrom l G ks14 kb16 hkb16 kb18 hkb18) kw_X11_219 (q_recv hE hW hkb16 rfl q_k8) rfl hl.1 rfl (Nat.le_of_ble_eq_true rfl) dX11_back_47 ⟨by decide, by decide⟩ ⟨by decide, by decide⟩) (by decide) (fun ks20 H locs kp19 kf21 hW => ?_)
        refine lv_aload_n hx hb dX11_back_50 rfl (lv_at hl 0 rfl) ?_
        refine lv_iconst (v := 0) hx hb dX11_back_51 (by decide) ?_
        refine q_puti hE hW h0 rfl q_k11 tyX11 tyX11_ok 10 (by decide) rfl (hE.l wl_435) rfl rfl rfl ((q_c (k := 0) (x := 0) (by decide)).w (by decide) (by decide)) (by decide) dX11_back_52 (fun H locs ks22 kp23 hW => ?_)
        refine lv_aload_n hx hb dX11_back_55 rfl (lv_at hl 0 rfl) ?_
        refine q_getr hE hW h0 rfl q_k11 5 (by decide) rfl (hE.l wl_35) dX11_back_56 (fun kb24 ekb24 hkb24a hkb24b => ?_)
        obtain rfl : kb10 = kb24 := ((((kp23.2.2.1 _ _).trans (kf21.R _ h0 (by decide))).trans (kf15.R _ h0 (by decide))).trans ekb10).symm.trans ekb24
        refine q_geti hE hW hkb10 rfl q_k2 8 (by decide) rfl (hE.n 34 rfl) dX11_back_59 (fun kx25 ekx25 vkx25 => ?_)
        exact q_reti hE hr hlocks hW ((q_all kx25)) dX11_back_62
      · have kv26 : q_V 0 0 kx7 := q_eq1 vkx7 (q_c (k := 0) (x := 0) (by decide)) kc8 (by decide) (by decide)
        refine lv_bipush (v := (-4)) hx hb dX11_back_21 (by decide) ?_
        exact q_reti hE hr hlocks hW (((q_c (k := (-4)) (x := (-4)) (by decide)).w (by decide) (by decide))) dX11_back_23
    · have kv27 : q_V 2 2147483647 i1 := (q_le2 (q_c (k := 2) (x := 2) (by decide)) kv3 (Int32.not_lt.mp kc4)).w (by decide) (by decide)
      refine lv_bipush (v := (-2)) hx hb dX11_back_9 (by decide) ?_
      exact q_reti hE hr hlocks hW (((q_c (k := (-2)) (x := (-2)) (by decide)).w (by decide) (by decide))) dX11_back_11
set_option maxHeartbeats 4000000 in
set_option maxRecDepth 100000 in
theorem c_X11_takes (l : Launch) (G : q_G) (σ : q_S) (a0 : Nat) (h0 : q_T G a0 = 26) (i1 : Int32) (i2 : Int32)  : Met l yX11_takes (Cond.code yX11_takes cX11_takes 4 (some .int) :: wsL_law) (q_Rm 5) (q_Pre G σ [.ref a0, .int i1, .int i2]) (q_Qi G [] σ (fun r σ1 => q_V (-2147483648) 2147483647 r)) 0 0 (q_N G) := by
  refine q_ofW (ts := []) (by decide) (Nat.le_of_ble_eq_true rfl) ?_
  intro p e s m args below meth c hE hr hlocks hW ls hl
  have hE : q_E G p s m args c cX11_takes 4 RX11 := hE
  have hx := hE.1.1
  have hb := hE.1.2.1
  have hl : lv_has ls 4 [(0, .ref a0), (1, .int i1), (2, .int i2)] := hl
  refine lv_aload_n hx hb dX11_takes_0 rfl (lv_at hl 0 rfl) ?_
  refine q_getr hE hW h0 rfl q_k11 5 (by decide) rfl (hE.l wl_35) dX11_takes_1 (fun kb1 ekb1 hkb1a hkb1b => ?_)
  have hkb1 : q_T G kb1 = 7 := q_tag hkb1a hkb1b
  refine lv_iload_n hx hb dX11_takes_4 rfl (lv_at hl 1 rfl) ?_
  refine q_goq hW (q_runV (As := [.int i1]) (rest := []) hE hW (c_X2_cloudAt l G σ kb1 hkb1 i1) kw_X11_137 (q_recv hE hW hkb1 rfl q_k2) rfl hl.1 rfl (Nat.le_of_ble_eq_true rfl) dX11_takes_5 ⟨by decide, by decide⟩ ⟨by decide, by decide⟩) (by decide) (fun ks3 H locs kp2 kf4 hW => ?_) (fun kb5 ks3 H locs kp2 kf4 hW => ?_)
  · refine lv_astore_nN (lv' := [(3, .null), (0, .ref a0), (1, .int i1), (2, .int i2)]) hx hb dX11_takes_8 rfl hl (by decide) rfl (fun ls hl => ?_)
    refine lv_aload_nN hx hb dX11_takes_9 rfl (lv_at hl 0 rfl) ?_
    refine lv_ifnonnullN hx hb dX11_takes_10 ?_
    refine lv_bipush (v := (-2)) hx hb dX11_takes_13 (by decide) ?_
    exact q_reti hE hr hlocks hW (((q_c (k := (-2)) (x := (-2)) (by decide)).w (by decide) (by decide))) dX11_takes_15
  · have hkb5 : q_T G kb5 = 5 := kp2 kb5 rfl
    refine lv_astore_n (lv' := [(3, .ref kb5), (0, .ref a0), (1, .int i1), (2, .int i2)]) hx hb dX11_takes_8 rfl hl (by decide) rfl (fun ls hl => ?_)
    refine lv_aload_n hx hb dX11_takes_9 rfl (lv_at hl 0 rfl) ?_
    refine lv_ifnonnull hx hb dX11_takes_10 (tgt := 16) (by decide) ?_
    refine lv_iload_n hx hb dX11_takes_16 rfl (lv_at hl 3 rfl) ?_
    refine lv_iconst (v := 1) hx hb dX11_takes_17 (by decide) ?_
    refine lv_icmp_lt (tgt := 26) hx hb dX11_takes_18 (by decide) (fun kc6 => ?_) (fun kc6 => ?_)
    · have kv7 : q_V (-2147483648) 0 i2 := (q_lt1 (q_all i2) (q_c (k := 1) (x := 1) (by decide)) kc6).w (by decide) (by decide)
      refine lv_bipush (v := (-3)) hx hb dX11_takes_26 (by decide) ?_
      exact q_reti hE hr hlocks hW (((q_c (k := (-3)) (x := (-3)) (by decide)).w (by decide) (by decide))) dX11_takes_28
    · have kv8 : q_V 1 2147483647 i2 := (q_le2 (q_c (k := 1) (x := 1) (by decide)) (q_all i2) (Int32.not_lt.mp kc6)).w (by decide) (by decide)
      refine lv_iload_n hx hb dX11_takes_21 rfl (lv_at hl 3 rfl) ?_
      refine lv_iconst (v := 3) hx hb dX11_takes_22 (by decide) ?_
      refine lv_icmp_le (tgt := 29) hx hb dX11_takes_23 (by decide) (fun kc9 => ?_) (fun kc9 => ?_)
      · have kv10 : q_V 1 3 i2 := (q_le1 kv8 (q_c (k := 3) (x := 3) (by decide)) kc9).w (by decide) (by decide)
        refine lv_aload_n hx hb dX11_takes_29 rfl (lv_at hl 0 rfl) ?_
        refine lv_aload_n hx hb dX11_takes_30 rfl (lv_at hl 0 rfl) ?_
        refine q_getr hE hW hkb5 rfl q_k1 0 (by decide) rfl (hE.n 3 rfl) dX11_takes_31 (fun kb11 ekb11 hkb11a hkb11b => ?_)
        refine lv_iload_n hx hb dX11_takes_34 rfl (lv_at hl 3 rfl) ?_
        refine q_goi hW (q_runV (As := [.ref kb11, .int i2]) (rest := []) hE hW (c_X1_hoursAs l G ks3 kb5 hkb5 kb11 (Int.le_trans (by decide) hkb11a) (Int.le_trans hkb11b (by decide)) i2) kw_X11_222 (q_recv hE hW hkb5 rfl q_k1) rfl hl.1 rfl (Nat.le_of_ble_eq_true rfl) dX11_takes_35 ⟨by decide, by decide⟩ ⟨by decide, by decide⟩) (by decide) (fun kx15 ks13 H locs kp12 kf14 hW => ?_)
        exact q_reti hE hr hlocks hW ((q_all kx15)) dX11_takes_38
      · have kv16 : q_V 4 2147483647 i2 := (q_lt2 (q_c (k := 3) (x := 3) (by decide)) kv8 (Int32.not_le.mp kc9)).w (by decide) (by decide)
        refine lv_bipush (v := (-3)) hx hb dX11_takes_26 (by decide) ?_
        exact q_reti hE hr hlocks hW (((q_c (k := (-3)) (x := (-3)) (by decide)).w (by decide) (by decide))) dX11_takes_28
set_option maxHeartbeats 4000000 in
set_option maxRecDepth 100000 in
theorem c_X11_later (l : Launch) (G : q_G) (σ : q_S) (a0 : Nat) (h0 : q_T G a0 = 26) (i1 : Int32) (i2 : Int32)  : Met l yX11_later (Cond.code yX11_later cX11_later 4 (some .int) :: wsL_law) (q_Rm 6) (q_Pre G σ [.ref a0, .int i1, .int i2]) (q_Qi G [5, 6, 7, 9, 10, 12] σ (fun r σ1 => q_V (-2147483648) 2147483647 r)) 0 0 (q_N G) := by
  refine q_ofW (ts := [5, 6, 7, 9, 10, 12]) (by decide) (Nat.le_of_ble_eq_true rfl) ?_
  intro p e s m args below meth c hE hr hlocks hW ls hl
  have hE : q_E G p s m args c cX11_later 4 RX11 := hE
  have hx := hE.1.1
  have hb := hE.1.2.1
  have hl : lv_has ls 4 [(0, .ref a0), (1, .int i1), (2, .int i2)] := hl
  have lp39a : ∀ (n39a : Nat) (ks4 : q_S) (H : Heap) (locs : List Loc) (kv1 : q_V 0 6 i1) (kv2 : q_V 0 20 i2) (kx3 : Int32) (vkx3 : q_V 0 20 kx3) (hW : q_Wd G [5, 6, 7, 9, 10, 12] σ s.heap ks4 H locs) (ls : Array Slot) (hl : lv_has ls 4 [(0, .ref a0), (1, .int i1), (2, .int i2), (3, .int kx3)]), (20 - kx3.toInt).toNat < n39a → W p l e (q_Rm 6) s m args below meth c H locs 0 0 (MQ below (q_Qi G [5, 6, 7, 9, 10, 12] σ (fun r σ1 => q_V (-2147483648) 2147483647 r)) args s 0 0 (q_N G)) (F0 m 39 ls []) := by
    intro n39a
    induction n39a with
    | zero => intro _ _ _ _ _ _ _ _ _ _; exact fun h => absurd h (Nat.not_lt_zero _)
    | succ n39a ih39a =>
      intro ks4 H locs kv1 kv2 kx3 vkx3 hW ls hl hm39a
      refine lv_iload_n hx hb dX11_later_39 rfl (lv_at hl 3 rfl) ?_
      refine lv_iload_n hx hb dX11_later_40 rfl (lv_at hl 2 rfl) ?_
      refine lv_icmp_ge (tgt := 57) hx hb dX11_later_41 (by decide) (fun kc5 => ?_) (fun kc5 => ?_)
      · refine lv_aload_n hx hb dX11_later_57 rfl (lv_at hl 0 rfl) ?_
        refine q_getr hE hW h0 rfl q_k11 6 (by decide) rfl (hE.l wl_36) dX11_later_58 (fun kb6 ekb6 hkb6a hkb6b => ?_)
        have hkb6 : q_T G kb6 = 7 := q_tag hkb6a hkb6b
        refine lv_iload_n hx hb dX11_later_61 rfl (lv_at hl 1 rfl) ?_
        refine q_goi hW (q_runV (As := [.int i1]) (rest := []) hE hW (c_X2_readAt l G ks4 kb6 hkb6 i1) kw_X11_226 (q_recv hE hW hkb6 rfl q_k2) rfl hl.1 rfl (Nat.le_of_ble_eq_true rfl) dX11_later_62 ⟨by decide, by decide⟩ ⟨by decide, by decide⟩) (by decide) (fun kx10 ks8 H locs kp7 kf9 hW => ?_)
        exact q_reti hE hr hlocks hW ((q_all kx10)) dX11_later_65
      · have kv11 : q_V 0 19 kx3 := (q_lt1 vkx3 kv2 (Int32.not_le.mp kc5)).w (by decide) (by decide)
        have kv12 : q_V 1 20 i2 := (q_lt2 vkx3 kv2 (Int32.not_le.mp kc5)).w (by decide) (by decide)
        refine lv_aload_n hx hb dX11_later_44 rfl (lv_at hl 0 rfl) ?_
        refine q_getr hE hW h0 rfl q_k11 6 (by decide) rfl (hE.l wl_36) dX11_later_45 (fun kb13 ekb13 hkb13a hkb13b => ?_)
        have hkb13 : q_T G kb13 = 7 := q_tag hkb13a hkb13b
        refine q_gov hW (q_runV (As := []) (rest := []) hE hW (c_X2_passHour l G ks4 kb13 hkb13) kw_X11_216 (q_recv hE hW hkb13 rfl q_k2) rfl hl.1 rfl (Nat.le_of_ble_eq_true rfl) dX11_later_48 ⟨by decide, by decide⟩ ⟨by decide, by decide⟩) (by decide) (fun ks15 H locs kp14 kf16 hW => ?_)
        obtain ⟨kx17, ekx17⟩ : ∃ y : Int32, y = kx3 + 1 := ⟨_, rfl⟩
        have vkx17 : q_V 1 20 kx17 := by rw [ekx17]; exact (q_add kv11 (q_c (k := 1) (x := 1) (by decide)) (by decide) (by decide)).w (by decide) (by decide)
        have ikx17 : kx17.toInt = kx3.toInt + 1 := q_incT ekx17 kv11 (by decide) (by decide) (by decide)
        refine lv_iinc (v := kx17) (lv' := [(3, .int kx17), (0, .ref a0), (1, .int i1), (2, .int i2)]) hx hb dX11_later_51 hl (k := 3) rfl (by rw [ekx17]; rfl) (by decide) rfl (fun ls hl => ?_)
        refine lv_goto (tgt := 39) hx hb dX11_later_54 (by decide) ?_
        exact ih39a _ _ _ kv1 (kv12.w (by decide) (by decide)) kx17 (vkx17.w (by decide) (by decide)) hW ls (lv_sub hl [1, 2, 3, 0] rfl) (Nat.lt_of_lt_of_le (q_up (ikx17) (show q_V 1 20 kx17 from vkx17).2) (Nat.le_of_lt_succ hm39a))
  refine lv_iload_n hx hb dX11_later_0 rfl (lv_at hl 1 rfl) ?_
  refine lv_if_lt (tgt := 10) hx hb dX11_later_1 (by decide) (fun kc18 => ?_) (fun kc18 => ?_)
  · have kv19 : q_V (-2147483648) (-1) i1 := (q_lt1 (q_all i1) (q_c (k := 0) (x := 0) (by decide)) kc18).w (by decide) (by decide)
    refine lv_bipush (v := (-2)) hx hb dX11_later_10 (by decide) ?_
    exact q_reti hE hr hlocks hW (((q_c (k := (-2)) (x := (-2)) (by decide)).w (by decide) (by decide))) dX11_later_12
  · have kv20 : q_V 0 2147483647 i1 := (q_le2 (q_c (k := 0) (x := 0) (by decide)) (q_all i1) (Int32.not_lt.mp kc18)).w (by decide) (by decide)
    refine lv_iload_n hx hb dX11_later_4 rfl (lv_at hl 1 rfl) ?_
    refine lv_bipush (v := 7) hx hb dX11_later_5 (by decide) ?_
    refine lv_icmp_lt (tgt := 13) hx hb dX11_later_7 (by decide) (fun kc21 => ?_) (fun kc21 => ?_)
    · have kv22 : q_V 0 6 i1 := (q_lt1 kv20 (q_c (k := 7) (x := 7) (by decide)) kc21).w (by decide) (by decide)
      refine lv_iload_n hx hb dX11_later_13 rfl (lv_at hl 2 rfl) ?_
      refine lv_if_lt (tgt := 23) hx hb dX11_later_14 (by decide) (fun kc23 => ?_) (fun kc23 => ?_)
      · have kv24 : q_V (-2147483648) (-1) i2 := (q_lt1 (q_all i2) (q_c (k := 0) (x := 0) (by decide)) kc23).w (by decide) (by decide)
        refine lv_bipush (v := (-3)) hx hb dX11_later_23 (by decide) ?_
        exact q_reti hE hr hlocks hW (((q_c (k := (-3)) (x := (-3)) (by decide)).w (by decide) (by decide))) dX11_later_25
      · have kv25 : q_V 0 2147483647 i2 := (q_le2 (q_c (k := 0) (x := 0) (by decide)) (q_all i2) (Int32.not_lt.mp kc23)).w (by decide) (by decide)
        refine lv_iload_n hx hb dX11_later_17 rfl (lv_at hl 2 rfl) ?_
        refine lv_bipush (v := 20) hx hb dX11_later_18 (by decide) ?_
        refine lv_icmp_le (tgt := 26) hx hb dX11_later_20 (by decide) (fun kc26 => ?_) (fun kc26 => ?_)
        · have kv27 : q_V 0 20 i2 := (q_le1 kv25 (q_c (k := 20) (x := 20) (by decide)) kc26).w (by decide) (by decide)
          refine lv_aload_n hx hb dX11_later_26 rfl (lv_at hl 0 rfl) ?_
          refine q_getr hE hW h0 rfl q_k11 6 (by decide) rfl (hE.l wl_36) dX11_later_27 (fun kb28 ekb28 hkb28a hkb28b => ?_)
          have hkb28 : q_T G kb28 = 7 := q_tag hkb28a hkb28b
          refine lv_aload_n hx hb dX11_later_30 rfl (lv_at hl 0 rfl) ?_
          refine q_getr hE hW h0 rfl q_k11 5 (by decide) rfl (hE.l wl_35) dX11_later_31 (fun kb29 ekb29 hkb29a hkb29b => ?_)
          have hkb29 : q_T G kb29 = 7 := q_tag hkb29a hkb29b
          refine q_gov hW (q_runV (As := [.ref kb29]) (rest := []) hE hW (c_X2_copyFrom l G σ kb28 hkb28 kb29 hkb29) kw_X11_121 (q_recv hE hW hkb28 rfl q_k2) rfl hl.1 rfl (Nat.le_of_ble_eq_true rfl) dX11_later_34 ⟨by decide, by decide⟩ ⟨by decide, by decide⟩) (by decide) (fun ks31 H locs kp30 kf32 hW => ?_)
          refine lv_iconst (v := 0) hx hb dX11_later_37 (by decide) ?_
          refine lv_istore_n (lv' := [(3, .int 0), (0, .ref a0), (1, .int i1), (2, .int i2)]) hx hb dX11_later_38 rfl hl (by decide) rfl (fun ls hl => ?_)
          exact lp39a _ _ _ _ kv22 kv27 0 ((q_c (k := 0) (x := 0) (by decide)).w (by decide) (by decide)) hW ls (lv_sub hl [1, 2, 3, 0] rfl) (Nat.lt_succ_self _)
        · have kv33 : q_V 21 2147483647 i2 := (q_lt2 (q_c (k := 20) (x := 20) (by decide)) kv25 (Int32.not_le.mp kc26)).w (by decide) (by decide)
          refine lv_bipush (v := (-3)) hx hb dX11_later_23 (by decide) ?_
          exact q_reti hE hr hlocks hW (((q_c (k := (-3)) (x := (-3)) (by decide)).w (by decide) (by decide))) dX11_later_25
    · have kv34 : q_V 7 2147483647 i1 := (q_le2 (q_c (k := 7) (x := 7) (by decide)) kv20 (Int32.not_lt.mp kc21)).w (by decide) (by decide)
      refine lv_bipush (v := (-2)) hx hb dX11_later_10 (by decide) ?_
      exact q_reti hE hr hlocks hW (((q_c (k := (-2)) (x := (-2)) (by decide)).w (by decide) (by decide))) dX11_later_12
set_option maxHeartbeats 4000000 in
set_option maxRecDepth 100000 in
theorem c_X11_readAhead (l : Launch) (G : q_G) (σ : q_S) (a0 : Nat) (h0 : q_T G a0 = 26) (i1 : Int32)  : Met l yX11_readAhead (Cond.code yX11_readAhead cX11_readAhead 4 none :: wsL_law) (q_Rm 6) (q_Pre G σ [.ref a0, .int i1]) (q_Qv G [5, 6, 7, 9, 10, 12, 28] σ (fun σ1 => True)) 0 0 (q_N G) := by
  refine q_ofW (ts := [5, 6, 7, 9, 10, 12, 28]) (by decide) (Nat.le_of_ble_eq_true rfl) ?_
  intro p e s m args below meth c hE hr hlocks hW ls hl
  have hE : q_E G p s m args c cX11_readAhead 4 RX11 := hE
  have hx := hE.1.1
  have hb := hE.1.2.1
  have hl : lv_has ls 4 [(0, .ref a0), (1, .int i1)] := hl
  have lp41a : ∀ (n41a : Nat) (ks2 : q_S) (H : Heap) (locs : List Loc) (kx1 : Int32) (vkx1 : q_V 0 2147483647 kx1) (hW : q_Wd G [5, 6, 7, 9, 10, 12, 28] σ s.heap ks2 H locs) (ls : Array Slot) (hl : lv_has ls 4 [(0, .ref a0), (1, .int i1), (2, .int kx1)]), (2147483647 - kx1.toInt).toNat < n41a → W p l e (q_Rm 6) s m args below meth c H locs 0 0 (MQ below (q_Qv G [5, 6, 7, 9, 10, 12, 28] σ (fun σ1 => True)) args s 0 0 (q_N G)) (F0 m 41 ls []) := by
    intro n41a
    induction n41a with
    | zero => intro _ _ _ _ _ _ _ _; exact fun h => absurd h (Nat.not_lt_zero _)
    | succ n41a ih41a =>
      intro ks2 H locs kx1 vkx1 hW ls hl hm41a
      have lp55a : ∀ (n55a : Nat) (ks6 : q_S) (H : Heap) (locs : List Loc) (kv3 : q_V 1 2147483647 i1) (kv4 : q_V 0 2147483646 kx1) (kx5 : Int32) (vkx5 : q_V 0 7 kx5) (hW : q_Wd G [5, 6, 7, 9, 10, 12, 28] σ s.heap ks6 H locs) (ls : Array Slot) (hl : lv_has ls 4 [(0, .ref a0), (1, .int i1), (2, .int kx1), (3, .int kx5)]), (7 - kx5.toInt).toNat < n55a → W p l e (q_Rm 6) s m args below meth c H locs 0 0 (MQ below (q_Qv G [5, 6, 7, 9, 10, 12, 28] σ (fun σ1 => True)) args s 0 0 (q_N G)) (F0 m 55 ls []) := by
        intro n55a
        induction n55a with
        | zero => intro _ _ _ _ _ _ _ _ _ _; exact fun h => absurd h (Nat.not_lt_zero _)
        | succ n55a ih55a =>
          intro ks6 H locs kv3 kv4 kx5 vkx5 hW ls hl hm55a
          refine lv_iload_n hx hb dX11_readAhead_55 rfl (lv_at hl 3 rfl) ?_
          refine lv_bipush (v := 7) hx hb dX11_readAhead_56 (by decide) ?_
          refine lv_icmp_ge (tgt := 84) hx hb dX11_readAhead_58 (by decide) (fun kc7 => ?_) (fun kc7 => ?_)
          · have kv8 : q_V 7 7 kx5 := (q_le2 (q_c (k := 7) (x := 7) (by decide)) vkx5 kc7).w (by decide) (by decide)
            obtain ⟨kx9, ekx9⟩ : ∃ y : Int32, y = kx1 + 1 := ⟨_, rfl⟩
            have vkx9 : q_V 1 2147483647 kx9 := by rw [ekx9]; exact (q_add kv4 (q_c (k := 1) (x := 1) (by decide)) (by decide) (by decide)).w (by decide) (by decide)
            have ikx9 : kx9.toInt = kx1.toInt + 1 := q_incT ekx9 kv4 (by decide) (by decide) (by decide)
            refine lv_iinc (v := kx9) (lv' := [(2, .int kx9), (0, .ref a0), (1, .int i1), (3, .int kx5)]) hx hb dX11_readAhead_84 hl (k := 2) rfl (by rw [ekx9]; rfl) (by decide) rfl (fun ls hl => ?_)
            refine lv_goto (tgt := 41) hx hb dX11_readAhead_87 (by decide) ?_
            exact ih41a _ _ _ kx9 (vkx9.w (by decide) (by decide)) hW ls (lv_sub hl [1, 2, 0] rfl) (Nat.lt_of_lt_of_le (q_up (ikx9) (show q_V 1 2147483647 kx9 from vkx9).2) (Nat.le_of_lt_succ hm41a))
          · have kv10 : q_V 0 6 kx5 := (q_lt1 vkx5 (q_c (k := 7) (x := 7) (by decide)) (Int32.not_le.mp kc7)).w (by decide) (by decide)
            refine lv_aload_n hx hb dX11_readAhead_61 rfl (lv_at hl 0 rfl) ?_
            refine q_getr hE hW h0 rfl q_k11 8 (by decide) rfl (hE.l wl_46) dX11_readAhead_62 (fun kb11 ekb11 hkb11a hkb11b => ?_)
            have hkb11 : q_T G kb11 = 28 := q_tag hkb11a hkb11b
            refine lv_iload_n hx hb dX11_readAhead_65 rfl (lv_at hl 3 rfl) ?_
            refine lv_dup2_11 hx hb dX11_readAhead_66 rfl rfl ?_
            refine q_iald hE hW hkb11 rfl (q_in kv10 (by decide) (by decide)) dX11_readAhead_67 (fun kx12 ekx12 gkx12 => ?_)
            refine lv_aload_n hx hb dX11_readAhead_68 rfl (lv_at hl 0 rfl) ?_
            refine q_getr hE hW h0 rfl q_k11 6 (by decide) rfl (hE.l wl_36) dX11_readAhead_69 (fun kb13 ekb13 hkb13a hkb13b => ?_)
            have hkb13 : q_T G kb13 = 7 := q_tag hkb13a hkb13b
            refine lv_iload_n hx hb dX11_readAhead_72 rfl (lv_at hl 3 rfl) ?_
            refine q_goi hW (q_runV (As := [.int kx5]) (rest := [.int kx12, .int kx5, .ref kb11]) hE hW (c_X2_readAt l G ks6 kb13 hkb13 kx5) kw_X11_226 (q_recv hE hW hkb13 rfl q_k2) rfl hl.1 rfl (Nat.le_of_ble_eq_true rfl) dX11_readAhead_73 ⟨by decide, by decide⟩ ⟨by decide, by decide⟩) (by decide) (fun kx17 ks15 H locs kp14 kf16 hW => ?_)
            refine lv_ior hx hb dX11_readAhead_76 ?_
            refine lv_topi (fun kx18 ekx18 => ?_)
            refine q_iast hE hW hkb11 rfl (q_in kv10 (by decide) (by decide)) trivial (by decide) dX11_readAhead_77 (fun H locs ks19 kp20 hW => ?_)
            obtain ⟨kx21, ekx21⟩ : ∃ y : Int32, y = kx5 + 1 := ⟨_, rfl⟩
            have vkx21 : q_V 1 7 kx21 := by rw [ekx21]; exact (q_add kv10 (q_c (k := 1) (x := 1) (by decide)) (by decide) (by decide)).w (by decide) (by decide)
            have ikx21 : kx21.toInt = kx5.toInt + 1 := q_incT ekx21 kv10 (by decide) (by decide) (by decide)
            refine lv_iinc (v := kx21) (lv' := [(3, .int kx21), (0, .ref a0), (1, .int i1), (2, .int kx1)]) hx hb dX11_readAhead_78 hl (k := 3) rfl (by rw [ekx21]; rfl) (by decide) rfl (fun ls hl => ?_)
            refine lv_goto (tgt := 55) hx hb dX11_readAhead_81 (by decide) ?_
            exact ih55a _ _ _ kv3 kv4 kx21 (vkx21.w (by decide) (by decide)) hW ls (lv_sub hl [1, 2, 3, 0] rfl) (Nat.lt_of_lt_of_le (q_up (ikx21) (show q_V 1 7 kx21 from vkx21).2) (Nat.le_of_lt_succ hm55a))
      refine lv_iload_n hx hb dX11_readAhead_41 rfl (lv_at hl 2 rfl) ?_
      refine lv_iload_n hx hb dX11_readAhead_42 rfl (lv_at hl 1 rfl) ?_
      refine lv_icmp_ge (tgt := 90) hx hb dX11_readAhead_43 (by decide) (fun kc22 => ?_) (fun kc22 => ?_)
      · exact q_retv hE hr hlocks hW (trivial) dX11_readAhead_90
      · have kv23 : q_V 0 2147483646 kx1 := (q_lt1 vkx1 (q_all i1) (Int32.not_le.mp kc22)).w (by decide) (by decide)
        have kv24 : q_V 1 2147483647 i1 := (q_lt2 vkx1 (q_all i1) (Int32.not_le.mp kc22)).w (by decide) (by decide)
        refine lv_aload_n hx hb dX11_readAhead_46 rfl (lv_at hl 0 rfl) ?_
        refine q_getr hE hW h0 rfl q_k11 6 (by decide) rfl (hE.l wl_36) dX11_readAhead_47 (fun kb25 ekb25 hkb25a hkb25b => ?_)
        have hkb25 : q_T G kb25 = 7 := q_tag hkb25a hkb25b
        refine q_gov hW (q_runV (As := []) (rest := []) hE hW (c_X2_passHour l G ks2 kb25 hkb25) kw_X11_216 (q_recv hE hW hkb25 rfl q_k2) rfl hl.1 rfl (Nat.le_of_ble_eq_true rfl) dX11_readAhead_50 ⟨by decide, by decide⟩ ⟨by decide, by decide⟩) (by decide) (fun ks27 H locs kp26 kf28 hW => ?_)
        refine lv_iconst (v := 0) hx hb dX11_readAhead_53 (by decide) ?_
        refine lv_istore_n (lv' := [(3, .int 0), (0, .ref a0), (1, .int i1), (2, .int kx1)]) hx hb dX11_readAhead_54 rfl hl (by decide) rfl (fun ls hl => ?_)
        exact lp55a _ _ _ _ kv24 kv23 0 ((q_c (k := 0) (x := 0) (by decide)).w (by decide) (by decide)) hW ls (lv_sub hl [1, 2, 3, 0] rfl) (Nat.lt_succ_self _)
  have lp13a : ∀ (n13a : Nat) (ks30 : q_S) (H : Heap) (locs : List Loc) (kx29 : Int32) (vkx29 : q_V 0 7 kx29) (hW : q_Wd G [5, 6, 7, 9, 10, 12, 28] σ s.heap ks30 H locs) (ls : Array Slot) (hl : lv_has ls 4 [(0, .ref a0), (1, .int i1), (2, .int kx29)]), (7 - kx29.toInt).toNat < n13a → W p l e (q_Rm 6) s m args below meth c H locs 0 0 (MQ below (q_Qv G [5, 6, 7, 9, 10, 12, 28] σ (fun σ1 => True)) args s 0 0 (q_N G)) (F0 m 13 ls []) := by
    intro n13a
    induction n13a with
    | zero => intro _ _ _ _ _ _ _ _; exact fun h => absurd h (Nat.not_lt_zero _)
    | succ n13a ih13a =>
      intro ks30 H locs kx29 vkx29 hW ls hl hm13a
      refine lv_iload_n hx hb dX11_readAhead_13 rfl (lv_at hl 2 rfl) ?_
      refine lv_bipush (v := 7) hx hb dX11_readAhead_14 (by decide) ?_
      refine lv_icmp_ge (tgt := 39) hx hb dX11_readAhead_16 (by decide) (fun kc31 => ?_) (fun kc31 => ?_)
      · have kv32 : q_V 7 7 kx29 := (q_le2 (q_c (k := 7) (x := 7) (by decide)) vkx29 kc31).w (by decide) (by decide)
        refine lv_iconst (v := 0) hx hb dX11_readAhead_39 (by decide) ?_
        refine lv_istore_n (lv' := [(2, .int 0), (0, .ref a0), (1, .int i1)]) hx hb dX11_readAhead_40 rfl hl (by decide) rfl (fun ls hl => ?_)
        exact lp41a _ _ _ _ 0 ((q_c (k := 0) (x := 0) (by decide)).w (by decide) (by decide)) hW ls (lv_sub hl [1, 2, 0] rfl) (Nat.lt_succ_self _)
      · have kv33 : q_V 0 6 kx29 := (q_lt1 vkx29 (q_c (k := 7) (x := 7) (by decide)) (Int32.not_le.mp kc31)).w (by decide) (by decide)
        refine lv_aload_n hx hb dX11_readAhead_19 rfl (lv_at hl 0 rfl) ?_
        refine q_getr hE hW h0 rfl q_k11 8 (by decide) rfl (hE.l wl_46) dX11_readAhead_20 (fun kb34 ekb34 hkb34a hkb34b => ?_)
        have hkb34 : q_T G kb34 = 28 := q_tag hkb34a hkb34b
        refine lv_iload_n hx hb dX11_readAhead_23 rfl (lv_at hl 2 rfl) ?_
        refine lv_aload_n hx hb dX11_readAhead_24 rfl (lv_at hl 0 rfl) ?_
        refine q_getr hE hW h0 rfl q_k11 6 (by decide) rfl (hE.l wl_36) dX11_readAhead_25 (fun kb35 ekb35 hkb35a hkb35b => ?_)
        have hkb35 : q_T G kb35 = 7 := q_tag hkb35a hkb35b
        refine lv_iload_n hx hb dX11_readAhead_28 rfl (lv_at hl 2 rfl) ?_
        refine q_goi hW (q_runV (As := [.int kx29]) (rest := [.int kx29, .ref kb34]) hE hW (c_X2_readAt l G ks30 kb35 hkb35 kx29) kw_X11_226 (q_recv hE hW hkb35 rfl q_k2) rfl hl.1 rfl (Nat.le_of_ble_eq_true rfl) dX11_readAhead_29 ⟨by decide, by decide⟩ ⟨by decide, by decide⟩) (by decide) (fun kx39 ks37 H locs kp36 kf38 hW => ?_)
        refine q_iast hE hW hkb34 rfl (q_in kv33 (by decide) (by decide)) trivial (by decide) dX11_readAhead_32 (fun H locs ks40 kp41 hW => ?_)
        obtain ⟨kx42, ekx42⟩ : ∃ y : Int32, y = kx29 + 1 := ⟨_, rfl⟩
        have vkx42 : q_V 1 7 kx42 := by rw [ekx42]; exact (q_add kv33 (q_c (k := 1) (x := 1) (by decide)) (by decide) (by decide)).w (by decide) (by decide)
        have ikx42 : kx42.toInt = kx29.toInt + 1 := q_incT ekx42 kv33 (by decide) (by decide) (by decide)
        refine lv_iinc (v := kx42) (lv' := [(2, .int kx42), (0, .ref a0), (1, .int i1)]) hx hb dX11_readAhead_33 hl (k := 2) rfl (by rw [ekx42]; rfl) (by decide) rfl (fun ls hl => ?_)
        refine lv_goto (tgt := 13) hx hb dX11_readAhead_36 (by decide) ?_
        exact ih13a _ _ _ kx42 (vkx42.w (by decide) (by decide)) hW ls (lv_sub hl [1, 2, 0] rfl) (Nat.lt_of_lt_of_le (q_up (ikx42) (show q_V 1 7 kx42 from vkx42).2) (Nat.le_of_lt_succ hm13a))
  refine lv_aload_n hx hb dX11_readAhead_0 rfl (lv_at hl 0 rfl) ?_
  refine q_getr hE hW h0 rfl q_k11 6 (by decide) rfl (hE.l wl_36) dX11_readAhead_1 (fun kb43 ekb43 hkb43a hkb43b => ?_)
  have hkb43 : q_T G kb43 = 7 := q_tag hkb43a hkb43b
  refine lv_aload_n hx hb dX11_readAhead_4 rfl (lv_at hl 0 rfl) ?_
  refine q_getr hE hW h0 rfl q_k11 5 (by decide) rfl (hE.l wl_35) dX11_readAhead_5 (fun kb44 ekb44 hkb44a hkb44b => ?_)
  have hkb44 : q_T G kb44 = 7 := q_tag hkb44a hkb44b
  refine q_gov hW (q_runV (As := [.ref kb44]) (rest := []) hE hW (c_X2_copyFrom l G σ kb43 hkb43 kb44 hkb44) kw_X11_121 (q_recv hE hW hkb43 rfl q_k2) rfl hl.1 rfl (Nat.le_of_ble_eq_true rfl) dX11_readAhead_8 ⟨by decide, by decide⟩ ⟨by decide, by decide⟩) (by decide) (fun ks46 H locs kp45 kf47 hW => ?_)
  refine lv_iconst (v := 0) hx hb dX11_readAhead_11 (by decide) ?_
  refine lv_istore_n (lv' := [(2, .int 0), (0, .ref a0), (1, .int i1)]) hx hb dX11_readAhead_12 rfl hl (by decide) rfl (fun ls hl => ?_)
  exact lp13a _ _ _ _ 0 ((q_c (k := 0) (x := 0) (by decide)).w (by decide) (by decide)) hW ls (lv_sub hl [1, 2, 0] rfl) (Nat.lt_succ_self _)
set_option maxHeartbeats 4000000 in
set_option maxRecDepth 100000 in
theorem c_X11_stands (l : Launch) (G : q_G) (σ : q_S) (a0 : Nat) (h0 : q_T G a0 = 26) (i1 : Int32) (i2 : Int32)  : Met l yX11_stands (Cond.code yX11_stands cX11_stands 6 (some .int) :: wsL_law) (q_Rm 7) (q_Pre G σ [.ref a0, .int i1, .int i2]) (q_Qi G [5, 6, 7, 9, 10, 12, 28] σ (fun r σ1 => q_V (-2147483648) 2147483647 r)) 0 0 (q_N G) := by
  refine q_ofW (ts := [5, 6, 7, 9, 10, 12, 28]) (by decide) (Nat.le_of_ble_eq_true rfl) ?_
  intro p e s m args below meth c hE hr hlocks hW ls hl
  have hE : q_E G p s m args c cX11_stands 6 RX11 := hE
  have hx := hE.1.1
  have hb := hE.1.2.1
  have hl : lv_has ls 6 [(0, .ref a0), (1, .int i1), (2, .int i2)] := hl
  have lp36a : ∀ (n36a : Nat) (ks4 : q_S) (H : Heap) (locs : List Loc) (kv1 : q_V 0 63 i1) (kx2 : Int32) (vkx2 : q_V (-1) 127 kx2) (kx3 : Int32) (vkx3 : q_V 0 128 kx3) (hW : q_Wd G [5, 6, 7, 9, 10, 12, 28] σ s.heap ks4 H locs) (ls : Array Slot) (hl : lv_has ls 6 [(0, .ref a0), (1, .int i1), (3, .int kx2), (4, .int kx3)]), (128 - kx3.toInt).toNat < n36a → W p l e (q_Rm 7) s m args below meth c H locs 0 0 (MQ below (q_Qi G [5, 6, 7, 9, 10, 12, 28] σ (fun r σ1 => q_V (-2147483648) 2147483647 r)) args s 0 0 (q_N G)) (F0 m 36 ls []) := by
    intro n36a
    induction n36a with
    | zero => intro _ _ _ _ _ _ _ _ _ _ _; exact fun h => absurd h (Nat.not_lt_zero _)
    | succ n36a ih36a =>
      intro ks4 H locs kv1 kx2 vkx2 kx3 vkx3 hW ls hl hm36a
      have jn89a : ∀ (ks7 : q_S) (H : Heap) (locs : List Loc) (kx5 : Int32) (vkx5 : q_V (-1) 127 kx5) (kv6 : q_V 0 127 kx3) (hW : q_Wd G [5, 6, 7, 9, 10, 12, 28] σ s.heap ks7 H locs) (ls : Array Slot) (hl : lv_has ls 6 [(0, .ref a0), (1, .int i1), (3, .int kx5), (4, .int kx3)]), W p l e (q_Rm 7) s m args below meth c H locs 0 0 (MQ below (q_Qi G [5, 6, 7, 9, 10, 12, 28] σ (fun r σ1 => q_V (-2147483648) 2147483647 r)) args s 0 0 (q_N G)) (F0 m 89 ls []) := by
        intro ks7 H locs kx5 vkx5 kv6 hW ls hl
        obtain ⟨kx8, ekx8⟩ : ∃ y : Int32, y = kx3 + 1 := ⟨_, rfl⟩
        have vkx8 : q_V 1 128 kx8 := by rw [ekx8]; exact (q_add kv6 (q_c (k := 1) (x := 1) (by decide)) (by decide) (by decide)).w (by decide) (by decide)
        have ikx8 : kx8.toInt = kx3.toInt + 1 := q_incT ekx8 kv6 (by decide) (by decide) (by decide)
        refine lv_iinc (v := kx8) (lv' := [(4, .int kx8), (0, .ref a0), (1, .int i1), (3, .int kx5)]) hx hb dX11_stands_89 hl (k := 3) rfl (by rw [ekx8]; rfl) (by decide) rfl (fun ls hl => ?_)
        refine lv_goto (tgt := 36) hx hb dX11_stands_92 (by decide) ?_
        exact ih36a _ _ _ kv1 kx5 vkx5 kx8 (vkx8.w (by decide) (by decide)) hW ls (lv_sub hl [1, 2, 3, 0] rfl) (Nat.lt_of_lt_of_le (q_up (ikx8) (show q_V 1 128 kx8 from vkx8).2) (Nat.le_of_lt_succ hm36a))
      have jn66a : ∀ (ks11 : q_S) (H : Heap) (locs : List Loc) (kv9 : q_V 0 127 kx3) (kx10 : Int32) (vkx10 : q_V 0 1 kx10) (hW : q_Wd G [5, 6, 7, 9, 10, 12, 28] σ s.heap ks11 H locs) (ls : Array Slot) (hl : lv_has ls 6 [(0, .ref a0), (1, .int i1), (3, .int kx2), (4, .int kx3)]), W p l e (q_Rm 7) s m args below meth c H locs 0 0 (MQ below (q_Qi G [5, 6, 7, 9, 10, 12, 28] σ (fun r σ1 => q_V (-2147483648) 2147483647 r)) args s 0 0 (q_N G)) (F0 m 66 ls [.int kx10]) := by
        intro ks11 H locs kv9 kx10 vkx10 hW ls hl
        refine lv_istore (lv' := [(5, .int kx10), (0, .ref a0), (1, .int i1), (3, .int kx2), (4, .int kx3)]) hx hb dX11_stands_66 hl (by decide) rfl (fun ls hl => ?_)
        refine lv_iload hx hb dX11_stands_68 (lv_at hl 0 rfl) ?_
        refine lv_if_eq (tgt := 89) hx hb dX11_stands_70 (by decide) (fun kc12 => ?_) (fun kc12 => ?_)
        · have kv13 : q_V 0 0 kx10 := q_eq1 vkx10 (q_c (k := 0) (x := 0) (by decide)) kc12 (by decide) (by decide)
          exact jn89a _ _ _ kx2 vkx2 kv9 hW ls (lv_sub hl [1, 2, 3, 4] rfl)
        · have kv14 : q_V 1 1 kx10 := q_ne1 vkx10 (q_c (k := 0) (x := 0) (by decide)) kc12 (by decide)
          refine lv_iload_n hx hb dX11_stands_73 rfl (lv_at hl 2 rfl) ?_
          refine lv_aload_n hx hb dX11_stands_74 rfl (lv_at hl 1 rfl) ?_
          refine lv_iload hx hb dX11_stands_75 (lv_at hl 4 rfl) ?_
          refine q_goi hW (q_runV (As := [.int kx3]) (rest := [.int i1]) hE hW (c_X11_readFrom l G ks11 a0 h0 kx3) kw_X11_238 (q_recv hE hW h0 rfl q_k11) rfl hl.1 rfl (Nat.le_of_ble_eq_true rfl) dX11_stands_77 ⟨by decide, by decide⟩ ⟨by decide, by decide⟩) (by decide) (fun kx18 ks16 H locs kp15 kf17 hW => ?_)
          refine lv_iconst (v := (-1)) hx hb dX11_stands_80 (by decide) ?_
          refine lv_ixor hx hb dX11_stands_81 ?_
          refine lv_topi (fun kx19 ekx19 => ?_)
          refine lv_iand hx hb dX11_stands_82 ?_
          refine lv_topi (fun kx20 ekx20 => ?_)
          refine lv_if_ne (tgt := 89) hx hb dX11_stands_83 (by decide) (fun kc21 => ?_) (fun kc21 => ?_)
          · exact jn89a _ _ _ kx2 vkx2 kv9 hW ls (lv_sub hl [1, 2, 3, 4] rfl)
          · have kv22 : q_V 0 0 kx20 := q_eq1 (q_all kx20) (q_c (k := 0) (x := 0) (by decide)) kc21 (by decide) (by decide)
            refine lv_iload hx hb dX11_stands_86 (lv_at hl 4 rfl) ?_
            refine lv_istore_n (lv' := [(3, .int kx3), (5, .int kx10), (0, .ref a0), (1, .int i1), (4, .int kx3)]) hx hb dX11_stands_88 rfl hl (by decide) rfl (fun ls hl => ?_)
            exact jn89a _ _ _ kx3 (kv9.w (by decide) (by decide)) kv9 hW ls (lv_sub hl [2, 3, 0, 4] rfl)
      have jn61a : ∀ (ks24 : q_S) (H : Heap) (locs : List Loc) (kv23 : q_V 0 127 kx3) (hW : q_Wd G [5, 6, 7, 9, 10, 12, 28] σ s.heap ks24 H locs) (ls : Array Slot) (hl : lv_has ls 6 [(0, .ref a0), (1, .int i1), (3, .int kx2), (4, .int kx3)]), W p l e (q_Rm 7) s m args below meth c H locs 0 0 (MQ below (q_Qi G [5, 6, 7, 9, 10, 12, 28] σ (fun r σ1 => q_V (-2147483648) 2147483647 r)) args s 0 0 (q_N G)) (F0 m 61 ls []) := by
        intro ks24 H locs kv23 hW ls hl
        refine lv_iconst (v := 1) hx hb dX11_stands_61 (by decide) ?_
        refine lv_goto (tgt := 66) hx hb dX11_stands_62 (by decide) ?_
        exact jn66a _ _ _ kv23 1 ((q_c (k := 1) (x := 1) (by decide)).w (by decide) (by decide)) hW ls (lv_sub hl [0, 1, 2, 3] rfl)
      refine lv_iload hx hb dX11_stands_36 (lv_at hl 3 rfl) ?_
      refine lv_sipush (v := 128) hx hb dX11_stands_38 (by decide) ?_
      refine lv_icmp_ge (tgt := 95) hx hb dX11_stands_41 (by decide) (fun kc25 => ?_) (fun kc25 => ?_)
      · have kv26 : q_V 128 128 kx3 := (q_le2 (q_c (k := 128) (x := 128) (by decide)) vkx3 kc25).w (by decide) (by decide)
        refine lv_iload_n hx hb dX11_stands_95 rfl (lv_at hl 2 rfl) ?_
        exact q_reti hE hr hlocks hW ((vkx2.w (by decide) (by decide))) dX11_stands_96
      · have kv27 : q_V 0 127 kx3 := (q_lt1 vkx3 (q_c (k := 128) (x := 128) (by decide)) (Int32.not_le.mp kc25)).w (by decide) (by decide)
        refine lv_iload_n hx hb dX11_stands_44 rfl (lv_at hl 2 rfl) ?_
        refine lv_iconst (v := (-1)) hx hb dX11_stands_45 (by decide) ?_
        refine lv_icmp_eq (tgt := 61) hx hb dX11_stands_46 (by decide) (fun kc28 => ?_) (fun kc28 => ?_)
        · have kv29 : q_V (-1) (-1) kx2 := q_eq1 vkx2 (q_c (k := (-1)) (x := (-1)) (by decide)) kc28 (by decide) (by decide)
          exact jn61a _ _ _ kv27 hW ls (lv_sub hl [0, 1, 2, 3] rfl)
        · have kv30 : q_V 0 127 kx2 := q_ne1 vkx2 (q_c (k := (-1)) (x := (-1)) (by decide)) kc28 (by decide)
          refine lv_iload hx hb dX11_stands_49 (lv_at hl 3 rfl) ?_
          refine q_goi hW (q_runS (As := [.int kx3]) (rest := []) hE hW (c_J6_bitCount_0f7a4 l G ks4 kx3) kw_X11_233 rfl hl.1 rfl (Nat.le_of_ble_eq_true rfl) dX11_stands_51 ⟨by decide, by decide⟩ ⟨by decide, by decide⟩) (by decide) (fun kx34 ks32 H locs kp31 kf33 hW => ?_)
          refine lv_iload_n hx hb dX11_stands_54 rfl (lv_at hl 2 rfl) ?_
          refine q_goi hW (q_runS (As := [.int kx2]) (rest := [.int kx34]) hE hW (c_J6_bitCount_0f7a4 l G ks32 kx2) kw_X11_233 rfl hl.1 rfl (Nat.le_of_ble_eq_true rfl) dX11_stands_55 ⟨by decide, by decide⟩ ⟨by decide, by decide⟩) (by decide) (fun kx38 ks36 H locs kp35 kf37 hW => ?_)
          refine lv_icmp_ge (tgt := 65) hx hb dX11_stands_58 (by decide) (fun kc39 => ?_) (fun kc39 => ?_)
          · refine lv_iconst (v := 0) hx hb dX11_stands_65 (by decide) ?_
            exact jn66a _ _ _ kv27 0 ((q_c (k := 0) (x := 0) (by decide)).w (by decide) (by decide)) hW ls (lv_sub hl [0, 1, 2, 3] rfl)
          · have kv40 : q_V 0 62 kx34 := (q_lt1 kp31 kp35 (Int32.not_le.mp kc39)).w (by decide) (by decide)
            have kv41 : q_V 1 63 kx38 := (q_lt2 kp31 kp35 (Int32.not_le.mp kc39)).w (by decide) (by decide)
            exact jn61a _ _ _ kv27 hW ls (lv_sub hl [0, 1, 2, 3] rfl)
  refine lv_iload_n hx hb dX11_stands_0 rfl (lv_at hl 1 rfl) ?_
  refine lv_if_lt (tgt := 10) hx hb dX11_stands_1 (by decide) (fun kc42 => ?_) (fun kc42 => ?_)
  · have kv43 : q_V (-2147483648) (-1) i1 := (q_lt1 (q_all i1) (q_c (k := 0) (x := 0) (by decide)) kc42).w (by decide) (by decide)
    refine lv_bipush (v := (-2)) hx hb dX11_stands_10 (by decide) ?_
    exact q_reti hE hr hlocks hW (((q_c (k := (-2)) (x := (-2)) (by decide)).w (by decide) (by decide))) dX11_stands_12
  · have kv44 : q_V 0 2147483647 i1 := (q_le2 (q_c (k := 0) (x := 0) (by decide)) (q_all i1) (Int32.not_lt.mp kc42)).w (by decide) (by decide)
    refine lv_iload_n hx hb dX11_stands_4 rfl (lv_at hl 1 rfl) ?_
    refine lv_bipush (v := 64) hx hb dX11_stands_5 (by decide) ?_
    refine lv_icmp_lt (tgt := 13) hx hb dX11_stands_7 (by decide) (fun kc45 => ?_) (fun kc45 => ?_)
    · have kv46 : q_V 0 63 i1 := (q_lt1 kv44 (q_c (k := 64) (x := 64) (by decide)) kc45).w (by decide) (by decide)
      refine lv_iload_n hx hb dX11_stands_13 rfl (lv_at hl 2 rfl) ?_
      refine lv_if_lt (tgt := 23) hx hb dX11_stands_14 (by decide) (fun kc47 => ?_) (fun kc47 => ?_)
      · have kv48 : q_V (-2147483648) (-1) i2 := (q_lt1 (q_all i2) (q_c (k := 0) (x := 0) (by decide)) kc47).w (by decide) (by decide)
        refine lv_bipush (v := (-3)) hx hb dX11_stands_23 (by decide) ?_
        exact q_reti hE hr hlocks hW (((q_c (k := (-3)) (x := (-3)) (by decide)).w (by decide) (by decide))) dX11_stands_25
      · have kv49 : q_V 0 2147483647 i2 := (q_le2 (q_c (k := 0) (x := 0) (by decide)) (q_all i2) (Int32.not_lt.mp kc47)).w (by decide) (by decide)
        refine lv_iload_n hx hb dX11_stands_17 rfl (lv_at hl 2 rfl) ?_
        refine lv_bipush (v := 20) hx hb dX11_stands_18 (by decide) ?_
        refine lv_icmp_le (tgt := 26) hx hb dX11_stands_20 (by decide) (fun kc50 => ?_) (fun kc50 => ?_)
        · have kv51 : q_V 0 20 i2 := (q_le1 kv49 (q_c (k := 20) (x := 20) (by decide)) kc50).w (by decide) (by decide)
          refine lv_aload_n hx hb dX11_stands_26 rfl (lv_at hl 0 rfl) ?_
          refine lv_iload_n hx hb dX11_stands_27 rfl (lv_at hl 2 rfl) ?_
          refine q_gov hW (q_runV (As := [.int i2]) (rest := []) hE hW (c_X11_readAhead l G σ a0 h0 i2) kw_X11_229 (q_recv hE hW h0 rfl q_k11) rfl hl.1 rfl (Nat.le_of_ble_eq_true rfl) dX11_stands_28 ⟨by decide, by decide⟩ ⟨by decide, by decide⟩) (by decide) (fun ks53 H locs kp52 kf54 hW => ?_)
          refine lv_iconst (v := (-1)) hx hb dX11_stands_31 (by decide) ?_
          refine lv_istore_n (lv' := [(3, .int (-1)), (0, .ref a0), (1, .int i1), (2, .int i2)]) hx hb dX11_stands_32 rfl hl (by decide) rfl (fun ls hl => ?_)
          refine lv_iconst (v := 0) hx hb dX11_stands_33 (by decide) ?_
          refine lv_istore (lv' := [(4, .int 0), (3, .int (-1)), (0, .ref a0), (1, .int i1), (2, .int i2)]) hx hb dX11_stands_34 hl (by decide) rfl (fun ls hl => ?_)
          exact lp36a _ _ _ _ kv46 (-1) ((q_c (k := (-1)) (x := (-1)) (by decide)).w (by decide) (by decide)) 0 ((q_c (k := 0) (x := 0) (by decide)).w (by decide) (by decide)) hW ls (lv_sub hl [2, 3, 1, 0] rfl) (Nat.lt_succ_self _)
        · have kv55 : q_V 21 2147483647 i2 := (q_lt2 (q_c (k := 20) (x := 20) (by decide)) kv49 (Int32.not_le.mp kc50)).w (by decide) (by decide)
          refine lv_bipush (v := (-3)) hx hb dX11_stands_23 (by decide) ?_
          exact q_reti hE hr hlocks hW (((q_c (k := (-3)) (x := (-3)) (by decide)).w (by decide) (by decide))) dX11_stands_25
    · have kv56 : q_V 64 2147483647 i1 := (q_le2 (q_c (k := 64) (x := 64) (by decide)) kv44 (Int32.not_lt.mp kc45)).w (by decide) (by decide)
      refine lv_bipush (v := (-2)) hx hb dX11_stands_10 (by decide) ?_
      exact q_reti hE hr hlocks hW (((q_c (k := (-2)) (x := (-2)) (by decide)).w (by decide) (by decide))) dX11_stands_12
set_option maxHeartbeats 4000000 in
set_option maxRecDepth 100000 in
theorem c_X11_needed (l : Launch) (G : q_G) (σ : q_S) (a0 : Nat) (h0 : q_T G a0 = 26) (i1 : Int32)  : Met l yX11_needed (Cond.code yX11_needed cX11_needed 4 (some .int) :: wsL_law) (q_Rm 2) (q_Pre G σ [.ref a0, .int i1]) (q_Qi G [] σ (fun r σ1 => q_V (-2147483648) 2147483647 r)) 0 0 (q_N G) := by
  refine q_ofW (ts := []) (by decide) (Nat.le_of_ble_eq_true rfl) ?_
  intro p e s m args below meth c hE hr hlocks hW ls hl
  have hE : q_E G p s m args c cX11_needed 4 RX11 := hE
  have hx := hE.1.1
  have hb := hE.1.2.1
  have hl : lv_has ls 4 [(0, .ref a0), (1, .int i1)] := hl
  have lp24a : ∀ (n24a : Nat) (kv1 : q_V 0 2147483646 i1) (kx2 : Int32) (kx3 : Int32) (vkx3 : q_V 0 6 kx3) (ls : Array Slot) (hl : lv_has ls 4 [(0, .ref a0), (1, .int i1), (2, .int kx2), (3, .int kx3)]), (6 - kx3.toInt).toNat < n24a → W p l e (q_Rm 2) s m args below meth c s.heap [] 0 0 (MQ below (q_Qi G [] σ (fun r σ1 => q_V (-2147483648) 2147483647 r)) args s 0 0 (q_N G)) (F0 m 24 ls []) := by
    intro n24a
    induction n24a with
    | zero => intro _ _ _ _ _ _; exact fun h => absurd h (Nat.not_lt_zero _)
    | succ n24a ih24a =>
      intro kv1 kx2 kx3 vkx3 ls hl hm24a
      have jn67a : ∀ (kx4 : Int32) (kv5 : q_V 0 5 kx3) (ls : Array Slot) (hl : lv_has ls 4 [(0, .ref a0), (1, .int i1), (2, .int kx4), (3, .int kx3)]), W p l e (q_Rm 2) s m args below meth c s.heap [] 0 0 (MQ below (q_Qi G [] σ (fun r σ1 => q_V (-2147483648) 2147483647 r)) args s 0 0 (q_N G)) (F0 m 67 ls []) := by
        intro kx4 kv5 ls hl
        obtain ⟨kx6, ekx6⟩ : ∃ y : Int32, y = kx3 + 1 := ⟨_, rfl⟩
        have vkx6 : q_V 1 6 kx6 := by rw [ekx6]; exact (q_add kv5 (q_c (k := 1) (x := 1) (by decide)) (by decide) (by decide)).w (by decide) (by decide)
        have ikx6 : kx6.toInt = kx3.toInt + 1 := q_incT ekx6 kv5 (by decide) (by decide) (by decide)
        refine lv_iinc (v := kx6) (lv' := [(3, .int kx6), (0, .ref a0), (1, .int i1), (2, .int kx4)]) hx hb dX11_needed_67 hl (k := 3) rfl (by rw [ekx6]; rfl) (by decide) rfl (fun ls hl => ?_)
        refine lv_goto (tgt := 24) hx hb dX11_needed_70 (by decide) ?_
        exact ih24a kv1 kx4 kx6 (vkx6.w (by decide) (by decide)) ls (lv_sub hl [1, 2, 3, 0] rfl) (Nat.lt_of_lt_of_le (q_up (ikx6) (show q_V 1 6 kx6 from vkx6).2) (Nat.le_of_lt_succ hm24a))
      refine lv_iload_n hx hb dX11_needed_24 rfl (lv_at hl 3 rfl) ?_
      refine lv_aload_n hx hb dX11_needed_25 rfl (lv_at hl 0 rfl) ?_
      refine q_getr hE hW h0 rfl q_k11 5 (by decide) rfl (hE.l wl_35) dX11_needed_26 (fun kb7 ekb7 hkb7a hkb7b => ?_)
      have hkb7 : q_T G kb7 = 7 := q_tag hkb7a hkb7b
      refine q_geti hE hW hkb7 rfl q_k2 1 (by decide) rfl (hE.n 21 rfl) dX11_needed_29 (fun kx8 ekx8 vkx8 => ?_)
      refine lv_icmp_ge (tgt := 73) hx hb dX11_needed_32 (by decide) (fun kc9 => ?_) (fun kc9 => ?_)
      · refine lv_iload_n hx hb dX11_needed_73 rfl (lv_at hl 2 rfl) ?_
        exact q_reti hE hr hlocks hW ((q_all kx2)) dX11_needed_74
      · have kv10 : q_V 0 5 kx3 := (q_lt1 vkx3 vkx8 (Int32.not_le.mp kc9)).w (by decide) (by decide)
        have kv11 : q_V 1 6 kx8 := (q_lt2 vkx3 vkx8 (Int32.not_le.mp kc9)).w (by decide) (by decide)
        refine lv_iload_n hx hb dX11_needed_35 rfl (lv_at hl 3 rfl) ?_
        refine lv_bipush (v := 6) hx hb dX11_needed_36 (by decide) ?_
        refine lv_icmp_ge (tgt := 73) hx hb dX11_needed_38 (by decide) (fun kc12 => ?_) (fun kc12 => ?_)
        · have kv13 : q_V 6 5 6 := (q_le1 (q_c (k := 6) (x := 6) (by decide)) kv10 kc12).w (by decide) (by decide)
          exact (kv13.no (by decide))
        · refine lv_iload_n hx hb dX11_needed_41 rfl (lv_at hl 1 rfl) ?_
          refine lv_iload_n hx hb dX11_needed_42 rfl (lv_at hl 3 rfl) ?_
          refine lv_ishr hx hb dX11_needed_43 ?_
          refine lv_topi (fun kx14 ekx14 => ?_)
          refine lv_iconst (v := 1) hx hb dX11_needed_44 (by decide) ?_
          refine lv_iand hx hb dX11_needed_45 ?_
          refine lv_topi (fun kx15 ekx15 => ?_)
          have vkx15 : q_V 0 1 kx15 := by rw [ekx15]; exact (q_and1 kx14).w (by decide) (by decide)
          refine lv_iconst (v := 1) hx hb dX11_needed_46 (by decide) ?_
          refine lv_icmp_ne (tgt := 67) hx hb dX11_needed_47 (by decide) (fun kc16 => ?_) (fun kc16 => ?_)
          · have kv17 : q_V 0 0 kx15 := q_ne2 vkx15 (q_c (k := 1) (x := 1) (by decide)) kc16 (by decide)
            exact jn67a kx2 kv10 ls (lv_sub hl [0, 1, 2, 3] rfl)
          · have kv18 : q_V 1 1 kx15 := q_eq1 vkx15 (q_c (k := 1) (x := 1) (by decide)) kc16 (by decide) (by decide)
            refine lv_iload_n hx hb dX11_needed_50 rfl (lv_at hl 2 rfl) ?_
            refine lv_aload_n hx hb dX11_needed_51 rfl (lv_at hl 0 rfl) ?_
            refine q_getr hE hW h0 rfl q_k11 5 (by decide) rfl (hE.l wl_35) dX11_needed_52 (fun kb19 ekb19 hkb19a hkb19b => ?_)
            obtain rfl : kb7 = kb19 := ekb7.symm.trans ekb19
            refine q_getr hE hW hkb7 rfl q_k2 0 (by decide) rfl (hE.n 18 rfl) dX11_needed_55 (fun kb20 ekb20 hkb20a hkb20b => ?_)
            have hkb20 : q_T G kb20 = 8 := q_tag hkb20a hkb20b
            refine lv_iload_n hx hb dX11_needed_58 rfl (lv_at hl 3 rfl) ?_
            refine q_aald hE hW hkb20 rfl (q_in kv10 (by decide) (by decide)) dX11_needed_59 (fun kb21 ekb21 hkb21a hkb21b => ?_)
            have hkb21 : q_T G kb21 = 5 := q_tag hkb21a hkb21b
            refine q_getr hE hW hkb21 rfl q_k1 5 (by decide) rfl (hE.n 14 rfl) dX11_needed_60 (fun kb22 ekb22 hkb22a hkb22b => ?_)
            have hkb22 : q_T G kb22 = 6 := q_tag hkb22a hkb22b
            refine lv_iconst (v := 5) hx hb dX11_needed_63 (by decide) ?_
            refine q_iald hE hW hkb22 rfl (q_in (q_c (k := 5) (x := 5) (by decide)) (by decide) (by decide)) dX11_needed_64 (fun kx23 ekx23 gkx23 => ?_)
            refine lv_iadd hx hb dX11_needed_65 ?_
            refine lv_topi (fun kx24 ekx24 => ?_)
            refine lv_istore_n (lv' := [(2, .int kx24), (0, .ref a0), (1, .int i1), (3, .int kx3)]) hx hb dX11_needed_66 rfl hl (by decide) rfl (fun ls hl => ?_)
            exact jn67a kx24 kv10 ls (lv_sub hl [1, 2, 0, 3] rfl)
  refine lv_iload_n hx hb dX11_needed_0 rfl (lv_at hl 1 rfl) ?_
  refine lv_if_lt (tgt := 17) hx hb dX11_needed_1 (by decide) (fun kc25 => ?_) (fun kc25 => ?_)
  · have kv26 : q_V (-2147483648) (-1) i1 := (q_lt1 (q_all i1) (q_c (k := 0) (x := 0) (by decide)) kc25).w (by decide) (by decide)
    refine lv_bipush (v := (-2)) hx hb dX11_needed_17 (by decide) ?_
    exact q_reti hE hr hlocks hW (((q_c (k := (-2)) (x := (-2)) (by decide)).w (by decide) (by decide))) dX11_needed_19
  · have kv27 : q_V 0 2147483647 i1 := (q_le2 (q_c (k := 0) (x := 0) (by decide)) (q_all i1) (Int32.not_lt.mp kc25)).w (by decide) (by decide)
    refine lv_iload_n hx hb dX11_needed_4 rfl (lv_at hl 1 rfl) ?_
    refine lv_iconst (v := 1) hx hb dX11_needed_5 (by decide) ?_
    refine lv_aload_n hx hb dX11_needed_6 rfl (lv_at hl 0 rfl) ?_
    refine q_getr hE hW h0 rfl q_k11 5 (by decide) rfl (hE.l wl_35) dX11_needed_7 (fun kb28 ekb28 hkb28a hkb28b => ?_)
    have hkb28 : q_T G kb28 = 7 := q_tag hkb28a hkb28b
    refine q_geti hE hW hkb28 rfl q_k2 1 (by decide) rfl (hE.n 21 rfl) dX11_needed_10 (fun kx29 ekx29 vkx29 => ?_)
    refine lv_ishl hx hb dX11_needed_13 ?_
    refine lv_topi (fun kx30 ekx30 => ?_)
    refine lv_icmp_lt (tgt := 20) hx hb dX11_needed_14 (by decide) (fun kc31 => ?_) (fun kc31 => ?_)
    · have kv32 : q_V 0 2147483646 i1 := (q_lt1 kv27 (q_all kx30) kc31).w (by decide) (by decide)
      have kv33 : q_V 1 2147483647 kx30 := (q_lt2 kv27 (q_all kx30) kc31).w (by decide) (by decide)
      refine lv_iconst (v := 0) hx hb dX11_needed_20 (by decide) ?_
      refine lv_istore_n (lv' := [(2, .int 0), (0, .ref a0), (1, .int i1)]) hx hb dX11_needed_21 rfl hl (by decide) rfl (fun ls hl => ?_)
      refine lv_iconst (v := 0) hx hb dX11_needed_22 (by decide) ?_
      refine lv_istore_n (lv' := [(3, .int 0), (2, .int 0), (0, .ref a0), (1, .int i1)]) hx hb dX11_needed_23 rfl hl (by decide) rfl (fun ls hl => ?_)
      exact lp24a _ kv32 0 0 ((q_c (k := 0) (x := 0) (by decide)).w (by decide) (by decide)) ls (lv_sub hl [2, 3, 1, 0] rfl) (Nat.lt_succ_self _)
    · refine lv_bipush (v := (-2)) hx hb dX11_needed_17 (by decide) ?_
      exact q_reti hE hr hlocks hW (((q_c (k := (-2)) (x := (-2)) (by decide)).w (by decide) (by decide))) dX11_needed_19
set_option maxHeartbeats 4000000 in
set_option maxRecDepth 100000 in
theorem c_X11_seen (l : Launch) (G : q_G) (σ : q_S) (a0 : Nat) (h0 : q_T G a0 = 26) (i1 : Int32) (i2 : Int32) (i3 : Int32)  : Met l yX11_seen (Cond.code yX11_seen cX11_seen 4 (some .int) :: wsL_law) (q_Rm 2) (q_Pre G σ [.ref a0, .int i1, .int i2, .int i3]) (q_Qi G [26, 33, 34, 35] σ (fun r σ1 => q_V (-2147483648) 2147483647 r)) 0 0 (q_N G) := by
  refine q_ofW (ts := [26, 33, 34, 35]) (by decide) (Nat.le_of_ble_eq_true rfl) ?_
  intro p e s m args below meth c hE hr hlocks hW ls hl
  have hE : q_E G p s m args c cX11_seen 4 RX11 := hE
  have hx := hE.1.1
  have hb := hE.1.2.1
  have hl : lv_has ls 4 [(0, .ref a0), (1, .int i1), (2, .int i2), (3, .int i3)] := hl
  refine lv_aload_n hx hb dX11_seen_0 rfl (lv_at hl 0 rfl) ?_
  refine q_getr hE hW h0 rfl q_k11 5 (by decide) rfl (hE.l wl_35) dX11_seen_1 (fun kb1 ekb1 hkb1a hkb1b => ?_)
  have hkb1 : q_T G kb1 = 7 := q_tag hkb1a hkb1b
  refine lv_iload_n hx hb dX11_seen_4 rfl (lv_at hl 1 rfl) ?_
  refine q_goq hW (q_runV (As := [.int i1]) (rest := []) hE hW (c_X2_cloudAt l G σ kb1 hkb1 i1) kw_X11_137 (q_recv hE hW hkb1 rfl q_k2) rfl hl.1 rfl (Nat.le_of_ble_eq_true rfl) dX11_seen_5 ⟨by decide, by decide⟩ ⟨by decide, by decide⟩) (by decide) (fun ks3 H locs kp2 kf4 hW => ?_) (fun kb5 ks3 H locs kp2 kf4 hW => ?_)
  · refine lv_ifnonnullN hx hb dX11_seen_8 ?_
    refine lv_bipush (v := (-2)) hx hb dX11_seen_11 (by decide) ?_
    exact q_reti hE hr hlocks hW (((q_c (k := (-2)) (x := (-2)) (by decide)).w (by decide) (by decide))) dX11_seen_13
  · have hkb5 : q_T G kb5 = 5 := kp2 kb5 rfl
    refine lv_ifnonnull hx hb dX11_seen_8 (tgt := 14) (by decide) ?_
    refine lv_iload_n hx hb dX11_seen_14 rfl (lv_at hl 2 rfl) ?_
    refine lv_iconst (v := 1) hx hb dX11_seen_15 (by decide) ?_
    refine lv_icmp_lt (tgt := 34) hx hb dX11_seen_16 (by decide) (fun kc6 => ?_) (fun kc6 => ?_)
    · have kv7 : q_V (-2147483648) 0 i2 := (q_lt1 (q_all i2) (q_c (k := 1) (x := 1) (by decide)) kc6).w (by decide) (by decide)
      refine lv_bipush (v := (-3)) hx hb dX11_seen_34 (by decide) ?_
      exact q_reti hE hr hlocks hW (((q_c (k := (-3)) (x := (-3)) (by decide)).w (by decide) (by decide))) dX11_seen_36
    · have kv8 : q_V 1 2147483647 i2 := (q_le2 (q_c (k := 1) (x := 1) (by decide)) (q_all i2) (Int32.not_lt.mp kc6)).w (by decide) (by decide)
      refine lv_iload_n hx hb dX11_seen_19 rfl (lv_at hl 2 rfl) ?_
      refine lv_iconst (v := 3) hx hb dX11_seen_20 (by decide) ?_
      refine lv_icmp_gt (tgt := 34) hx hb dX11_seen_21 (by decide) (fun kc9 => ?_) (fun kc9 => ?_)
      · have kv10 : q_V 4 2147483647 i2 := (q_lt2 (q_c (k := 3) (x := 3) (by decide)) kv8 kc9).w (by decide) (by decide)
        refine lv_bipush (v := (-3)) hx hb dX11_seen_34 (by decide) ?_
        exact q_reti hE hr hlocks hW (((q_c (k := (-3)) (x := (-3)) (by decide)).w (by decide) (by decide))) dX11_seen_36
      · have kv11 : q_V 1 3 i2 := (q_le1 kv8 (q_c (k := 3) (x := 3) (by decide)) (Int32.not_lt.mp kc9)).w (by decide) (by decide)
        refine lv_iload_n hx hb dX11_seen_24 rfl (lv_at hl 3 rfl) ?_
        refine lv_if_lt (tgt := 34) hx hb dX11_seen_25 (by decide) (fun kc12 => ?_) (fun kc12 => ?_)
        · have kv13 : q_V (-2147483648) (-1) i3 := (q_lt1 (q_all i3) (q_c (k := 0) (x := 0) (by decide)) kc12).w (by decide) (by decide)
          refine lv_bipush (v := (-3)) hx hb dX11_seen_34 (by decide) ?_
          exact q_reti hE hr hlocks hW (((q_c (k := (-3)) (x := (-3)) (by decide)).w (by decide) (by decide))) dX11_seen_36
        · have kv14 : q_V 0 2147483647 i3 := (q_le2 (q_c (k := 0) (x := 0) (by decide)) (q_all i3) (Int32.not_lt.mp kc12)).w (by decide) (by decide)
          refine lv_iload_n hx hb dX11_seen_28 rfl (lv_at hl 3 rfl) ?_
          refine lv_bipush (v := 60) hx hb dX11_seen_29 (by decide) ?_
          refine lv_icmp_le (tgt := 37) hx hb dX11_seen_31 (by decide) (fun kc15 => ?_) (fun kc15 => ?_)
          · have kv16 : q_V 0 60 i3 := (q_le1 kv14 (q_c (k := 60) (x := 60) (by decide)) kc15).w (by decide) (by decide)
            refine lv_aload_n hx hb dX11_seen_37 rfl (lv_at hl 0 rfl) ?_
            refine q_geti hE hW h0 rfl q_k11 17 (by decide) rfl (hE.l wl_434) dX11_seen_38 (fun kx17 ekx17 vkx17 => ?_)
            refine lv_if_lt (tgt := 53) hx hb dX11_seen_41 (by decide) (fun kc18 => ?_) (fun kc18 => ?_)
            · have kv19 : q_V (-2147483648) (-1) kx17 := (q_lt1 (q_all kx17) (q_c (k := 0) (x := 0) (by decide)) kc18).w (by decide) (by decide)
              refine lv_bipush (v := (-5)) hx hb dX11_seen_53 (by decide) ?_
              exact q_reti hE hr hlocks hW (((q_c (k := (-5)) (x := (-5)) (by decide)).w (by decide) (by decide))) dX11_seen_55
            · have kv20 : q_V 0 2147483647 kx17 := (q_le2 (q_c (k := 0) (x := 0) (by decide)) (q_all kx17) (Int32.not_lt.mp kc18)).w (by decide) (by decide)
              refine lv_aload_n hx hb dX11_seen_44 rfl (lv_at hl 0 rfl) ?_
              refine q_geti hE hW h0 rfl q_k11 17 (by decide) rfl (hE.l wl_434) dX11_seen_45 (fun kx21 ekx21 vkx21 => ?_)
              obtain rfl : kx17 = kx21 := ekx17.symm.trans ekx21
              refine lv_bipush (v := 6) hx hb dX11_seen_48 (by decide) ?_
              refine lv_icmp_lt (tgt := 56) hx hb dX11_seen_50 (by decide) (fun kc22 => ?_) (fun kc22 => ?_)
              · have kv23 : q_V 0 5 kx17 := (q_lt1 kv20 (q_c (k := 6) (x := 6) (by decide)) kc22).w (by decide) (by decide)
                refine lv_aload_n hx hb dX11_seen_56 rfl (lv_at hl 0 rfl) ?_
                refine q_getr hE hW h0 rfl q_k11 14 (by decide) rfl (hE.l wl_52) dX11_seen_57 (fun kb24 ekb24 hkb24a hkb24b => ?_)
                have hkb24 : q_T G kb24 = 33 := q_tag hkb24a hkb24b
                refine lv_aload_n hx hb dX11_seen_60 rfl (lv_at hl 0 rfl) ?_
                refine q_geti hE hW h0 rfl q_k11 17 (by decide) rfl (hE.l wl_434) dX11_seen_61 (fun kx25 ekx25 vkx25 => ?_)
                obtain rfl : kx17 = kx25 := ekx17.symm.trans ekx25
                refine lv_iload_n hx hb dX11_seen_64 rfl (lv_at hl 1 rfl) ?_
                refine q_iast hE hW hkb24 rfl (q_in kv23 (by decide) (by decide)) trivial (by decide) dX11_seen_65 (fun H locs ks26 kp27 hW => ?_)
                refine lv_aload_n hx hb dX11_seen_66 rfl (lv_at hl 0 rfl) ?_
                refine q_getr hE hW h0 rfl q_k11 15 (by decide) rfl (hE.l wl_53) dX11_seen_67 (fun kb28 ekb28 hkb28a hkb28b => ?_)
                have hkb28 : q_T G kb28 = 34 := q_tag hkb28a hkb28b
                refine lv_aload_n hx hb dX11_seen_70 rfl (lv_at hl 0 rfl) ?_
                refine q_geti hE hW h0 rfl q_k11 17 (by decide) rfl (hE.l wl_434) dX11_seen_71 (fun kx29 ekx29 vkx29 => ?_)
                obtain rfl : kx17 = kx29 := ((kp27.2.2.2.1 _ _).trans ekx17).symm.trans ekx29
                refine lv_iload_n hx hb dX11_seen_74 rfl (lv_at hl 2 rfl) ?_
                refine q_iast hE hW hkb28 rfl (q_in kv23 (by decide) (by decide)) trivial (by decide) dX11_seen_75 (fun H locs ks30 kp31 hW => ?_)
                refine lv_aload_n hx hb dX11_seen_76 rfl (lv_at hl 0 rfl) ?_
                refine q_getr hE hW h0 rfl q_k11 16 (by decide) rfl (hE.l wl_54) dX11_seen_77 (fun kb32 ekb32 hkb32a hkb32b => ?_)
                have hkb32 : q_T G kb32 = 35 := q_tag hkb32a hkb32b
                refine lv_aload_n hx hb dX11_seen_80 rfl (lv_at hl 0 rfl) ?_
                refine q_geti hE hW h0 rfl q_k11 17 (by decide) rfl (hE.l wl_434) dX11_seen_81 (fun kx33 ekx33 vkx33 => ?_)
                obtain rfl : kx17 = kx33 := (((kp31.2.2.2.1 _ _).trans (kp27.2.2.2.1 _ _)).trans ekx17).symm.trans ekx33
                refine lv_iload_n hx hb dX11_seen_84 rfl (lv_at hl 3 rfl) ?_
                refine q_iast hE hW hkb32 rfl (q_in kv23 (by decide) (by decide)) trivial (by decide) dX11_seen_85 (fun H locs ks34 kp35 hW => ?_)
                refine lv_aload_n hx hb dX11_seen_86 rfl (lv_at hl 0 rfl) ?_
                refine lv_dup hx hb dX11_seen_87 rfl ?_
                refine q_geti hE hW h0 rfl q_k11 17 (by decide) rfl (hE.l wl_434) dX11_seen_88 (fun kx36 ekx36 vkx36 => ?_)
                obtain rfl : kx17 = kx36 := ((((kp35.2.2.2.1 _ _).trans (kp31.2.2.2.1 _ _)).trans (kp27.2.2.2.1 _ _)).trans ekx17).symm.trans ekx36
                refine lv_iconst (v := 1) hx hb dX11_seen_91 (by decide) ?_
                refine lv_iadd hx hb dX11_seen_92 ?_
                refine lv_topi (fun kx37 ekx37 => ?_)
                have vkx37 : q_V 1 6 kx37 := by rw [ekx37]; exact (q_add kv23 (q_c (k := 1) (x := 1) (by decide)) (by decide) (by decide)).w (by decide) (by decide)
                have ikx37 : kx37.toInt = kx17.toInt + 1 := q_incT ekx37 kv23 (by decide) (by decide) (by decide)
                refine q_puti hE hW h0 rfl q_k11 tyX11 tyX11_ok 17 (by decide) rfl (hE.l wl_434) rfl rfl rfl (vkx37.w (by decide) (by decide)) (by decide) dX11_seen_93 (fun H locs ks38 kp39 hW => ?_)
                refine lv_aload_n hx hb dX11_seen_96 rfl (lv_at hl 0 rfl) ?_
                refine q_geti hE hW h0 rfl q_k11 17 (by decide) rfl (hE.l wl_434) dX11_seen_97 (fun kx40 ekx40 vkx40 => ?_)
                obtain rfl : kx37 = kx40 := kp39.1.symm.trans ekx40
                exact q_reti hE hr hlocks hW ((vkx37.w (by decide) (by decide))) dX11_seen_100
              · have kv41 : q_V 6 2147483647 kx17 := (q_le2 (q_c (k := 6) (x := 6) (by decide)) kv20 (Int32.not_lt.mp kc22)).w (by decide) (by decide)
                refine lv_bipush (v := (-5)) hx hb dX11_seen_53 (by decide) ?_
                exact q_reti hE hr hlocks hW (((q_c (k := (-5)) (x := (-5)) (by decide)).w (by decide) (by decide))) dX11_seen_55
          · have kv42 : q_V 61 2147483647 i3 := (q_lt2 (q_c (k := 60) (x := 60) (by decide)) kv14 (Int32.not_le.mp kc15)).w (by decide) (by decide)
            refine lv_bipush (v := (-3)) hx hb dX11_seen_34 (by decide) ?_
            exact q_reti hE hr hlocks hW (((q_c (k := (-3)) (x := (-3)) (by decide)).w (by decide) (by decide))) dX11_seen_36
set_option maxHeartbeats 4000000 in
set_option maxRecDepth 100000 in
theorem c_X11_forget (l : Launch) (G : q_G) (σ : q_S) (a0 : Nat) (h0 : q_T G a0 = 26)  : Met l yX11_forget (Cond.code yX11_forget cX11_forget 2 (some .int) :: wsL_law) (q_Rm 1) (q_Pre G σ [.ref a0]) (q_Qi G [26] σ (fun r σ1 => q_V (-2147483648) 2147483647 r)) 0 0 (q_N G) := by
  refine q_ofW (ts := [26]) (by decide) (Nat.le_of_ble_eq_true rfl) ?_
  intro p e s m args below meth c hE hr hlocks hW ls hl
  have hE : q_E G p s m args c cX11_forget 2 RX11 := hE
  have hx := hE.1.1
  have hb := hE.1.2.1
  have hl : lv_has ls 2 [(0, .ref a0)] := hl
  refine lv_aload_n hx hb dX11_forget_0 rfl (lv_at hl 0 rfl) ?_
  refine q_geti hE hW h0 rfl q_k11 17 (by decide) rfl (hE.l wl_434) dX11_forget_1 (fun kx1 ekx1 vkx1 => ?_)
  refine lv_istore_n (lv' := [(1, .int kx1), (0, .ref a0)]) hx hb dX11_forget_4 rfl hl (by decide) rfl (fun ls hl => ?_)
  refine lv_aload_n hx hb dX11_forget_5 rfl (lv_at hl 1 rfl) ?_
  refine lv_iconst (v := 0) hx hb dX11_forget_6 (by decide) ?_
  refine q_puti hE hW h0 rfl q_k11 tyX11 tyX11_ok 17 (by decide) rfl (hE.l wl_434) rfl rfl rfl ((q_c (k := 0) (x := 0) (by decide)).w (by decide) (by decide)) (by decide) dX11_forget_7 (fun H locs ks2 kp3 hW => ?_)
  refine lv_iload_n hx hb dX11_forget_10 rfl (lv_at hl 0 rfl) ?_
  exact q_reti hE hr hlocks hW ((q_all kx1)) dX11_forget_11
set_option maxHeartbeats 4000000 in
set_option maxRecDepth 100000 in
theorem c_X11_agreesWithSeen (l : Launch) (G : q_G) (σ : q_S) (a0 : Nat) (h0 : q_T G a0 = 26) (i1 : Int32) (a2 : Nat) (h2 : q_T G a2 = 5) (a3 : Nat) (h3a : (1 : Int) ≤ (q_T G a3 : Int))  (h3b : (q_T G a3 : Int) ≤ 4)  : Met l yX11_agreesWithSeen (Cond.code yX11_agreesWithSeen cX11_agreesWithSeen 6 (some .boolean) :: wsL_law) (q_Rm 5) (q_Pre G σ [.ref a0, .int i1, .ref a2, .ref a3]) (q_Qi G [] σ (fun r σ1 => q_V 0 1 r)) 0 0 (q_N G) := by
  refine q_ofW (ts := []) (by decide) (Nat.le_of_ble_eq_true rfl) ?_
  intro p e s m args below meth c hE hr hlocks hW ls hl
  have hE : q_E G p s m args c cX11_agreesWithSeen 6 RX11 := hE
  have hx := hE.1.1
  have hb := hE.1.2.1
  have hl : lv_has ls 6 [(0, .ref a0), (1, .int i1), (2, .ref a2), (3, .ref a3)] := hl
  have lp3a : ∀ (n3a : Nat) (ks2 : q_S) (H : Heap) (locs : List Loc) (kx1 : Int32) (vkx1 : q_V 0 6 kx1) (hW : q_Wd G [] σ s.heap ks2 H locs) (ls : Array Slot) (hl : lv_has ls 6 [(0, .ref a0), (1, .int i1), (2, .ref a2), (3, .ref a3), (4, .int kx1)]), (6 - kx1.toInt).toNat < n3a → W p l e (q_Rm 5) s m args below meth c H locs 0 0 (MQ below (q_Qi G [] σ (fun r σ1 => q_V 0 1 r)) args s 0 0 (q_N G)) (F0 m 3 ls []) := by
    intro n3a
    induction n3a with
    | zero => intro _ _ _ _ _ _ _ _; exact fun h => absurd h (Nat.not_lt_zero _)
    | succ n3a ih3a =>
      intro ks2 H locs kx1 vkx1 hW ls hl hm3a
      have jn69a : ∀ (ks4 : q_S) (H : Heap) (locs : List Loc) (kv3 : q_V 0 5 kx1) (hW : q_Wd G [] σ s.heap ks4 H locs) (ls : Array Slot) (hl : lv_has ls 6 [(0, .ref a0), (1, .int i1), (2, .ref a2), (3, .ref a3), (4, .int kx1)]), W p l e (q_Rm 5) s m args below meth c H locs 0 0 (MQ below (q_Qi G [] σ (fun r σ1 => q_V 0 1 r)) args s 0 0 (q_N G)) (F0 m 69 ls []) := by
        intro ks4 H locs kv3 hW ls hl
        obtain ⟨kx5, ekx5⟩ : ∃ y : Int32, y = kx1 + 1 := ⟨_, rfl⟩
        have vkx5 : q_V 1 6 kx5 := by rw [ekx5]; exact (q_add kv3 (q_c (k := 1) (x := 1) (by decide)) (by decide) (by decide)).w (by decide) (by decide)
        have ikx5 : kx5.toInt = kx1.toInt + 1 := q_incT ekx5 kv3 (by decide) (by decide) (by decide)
        refine lv_iinc (v := kx5) (lv' := [(4, .int kx5), (0, .ref a0), (1, .int i1), (2, .ref a2), (3, .ref a3)]) hx hb dX11_agreesWithSeen_69 hl (k := 4) rfl (by rw [ekx5]; rfl) (by decide) rfl (fun ls hl => ?_)
        refine lv_goto (tgt := 3) hx hb dX11_agreesWithSeen_72 (by decide) ?_
        exact ih3a _ _ _ kx5 (vkx5.w (by decide) (by decide)) hW ls (lv_sub hl [1, 2, 3, 4, 0] rfl) (Nat.lt_of_lt_of_le (q_up (ikx5) (show q_V 1 6 kx5 from vkx5).2) (Nat.le_of_lt_succ hm3a))
      have jn57a : ∀ (ks8 : q_S) (H : Heap) (locs : List Loc) (kv6 : q_V 0 5 kx1) (kx7 : Int32) (hW : q_Wd G [] σ s.heap ks8 H locs) (ls : Array Slot) (hl : lv_has ls 6 [(0, .ref a0), (1, .int i1), (2, .ref a2), (3, .ref a3), (4, .int kx1)]), W p l e (q_Rm 5) s m args below meth c H locs 0 0 (MQ below (q_Qi G [] σ (fun r σ1 => q_V 0 1 r)) args s 0 0 (q_N G)) (F0 m 57 ls [.int kx7]) := by
        intro ks8 H locs kv6 kx7 hW ls hl
        refine lv_aload_n hx hb dX11_agreesWithSeen_57 rfl (lv_at hl 0 rfl) ?_
        refine q_getr hE hW h0 rfl q_k11 16 (by decide) rfl (hE.l wl_54) dX11_agreesWithSeen_58 (fun kb9 ekb9 hkb9a hkb9b => ?_)
        have hkb9 : q_T G kb9 = 35 := q_tag hkb9a hkb9b
        refine lv_iload hx hb dX11_agreesWithSeen_61 (lv_at hl 4 rfl) ?_
        refine q_iald hE hW hkb9 rfl (q_in kv6 (by decide) (by decide)) dX11_agreesWithSeen_63 (fun kx10 ekx10 gkx10 => ?_)
        refine lv_icmp_eq (tgt := 69) hx hb dX11_agreesWithSeen_64 (by decide) (fun kc11 => ?_) (fun kc11 => ?_)
        · exact jn69a _ _ _ kv6 hW ls (lv_sub hl [0, 1, 2, 3, 4] rfl)
        · refine lv_iconst (v := 0) hx hb dX11_agreesWithSeen_67 (by decide) ?_
          exact q_retz hE hr hlocks hW (Or.inl rfl) (((q_c (k := 0) (x := 0) (by decide)).w (by decide) (by decide))) dX11_agreesWithSeen_68
      refine lv_iload hx hb dX11_agreesWithSeen_3 (lv_at hl 4 rfl) ?_
      refine lv_aload_n hx hb dX11_agreesWithSeen_5 rfl (lv_at hl 0 rfl) ?_
      refine q_geti hE hW h0 rfl q_k11 17 (by decide) rfl (hE.l wl_434) dX11_agreesWithSeen_6 (fun kx12 ekx12 vkx12 => ?_)
      refine lv_icmp_ge (tgt := 75) hx hb dX11_agreesWithSeen_9 (by decide) (fun kc13 => ?_) (fun kc13 => ?_)
      · have kv14 : q_V (-2147483648) 6 kx12 := (q_le1 (q_all kx12) vkx1 kc13).w (by decide) (by decide)
        refine lv_iconst (v := 1) hx hb dX11_agreesWithSeen_75 (by decide) ?_
        exact q_retz hE hr hlocks hW (Or.inr rfl) (((q_c (k := 1) (x := 1) (by decide)).w (by decide) (by decide))) dX11_agreesWithSeen_76
      · have kv15 : q_V 1 2147483647 kx12 := (q_lt2 vkx1 (q_all kx12) (Int32.not_le.mp kc13)).w (by decide) (by decide)
        refine lv_iload hx hb dX11_agreesWithSeen_12 (lv_at hl 4 rfl) ?_
        refine lv_bipush (v := 6) hx hb dX11_agreesWithSeen_14 (by decide) ?_
        refine lv_icmp_ge (tgt := 75) hx hb dX11_agreesWithSeen_16 (by decide) (fun kc16 => ?_) (fun kc16 => ?_)
        · have kv17 : q_V 6 6 kx1 := (q_le2 (q_c (k := 6) (x := 6) (by decide)) vkx1 kc16).w (by decide) (by decide)
          refine lv_iconst (v := 1) hx hb dX11_agreesWithSeen_75 (by decide) ?_
          exact q_retz hE hr hlocks hW (Or.inr rfl) (((q_c (k := 1) (x := 1) (by decide)).w (by decide) (by decide))) dX11_agreesWithSeen_76
        · have kv18 : q_V 0 5 kx1 := (q_lt1 vkx1 (q_c (k := 6) (x := 6) (by decide)) (Int32.not_le.mp kc16)).w (by decide) (by decide)
          refine lv_aload_n hx hb dX11_agreesWithSeen_19 rfl (lv_at hl 0 rfl) ?_
          refine q_getr hE hW h0 rfl q_k11 14 (by decide) rfl (hE.l wl_52) dX11_agreesWithSeen_20 (fun kb19 ekb19 hkb19a hkb19b => ?_)
          have hkb19 : q_T G kb19 = 33 := q_tag hkb19a hkb19b
          refine lv_iload hx hb dX11_agreesWithSeen_23 (lv_at hl 4 rfl) ?_
          refine q_iald hE hW hkb19 rfl (q_in kv18 (by decide) (by decide)) dX11_agreesWithSeen_25 (fun kx20 ekx20 gkx20 => ?_)
          refine lv_iload_n hx hb dX11_agreesWithSeen_26 rfl (lv_at hl 1 rfl) ?_
          refine lv_icmp_ne (tgt := 69) hx hb dX11_agreesWithSeen_27 (by decide) (fun kc21 => ?_) (fun kc21 => ?_)
          · exact jn69a _ _ _ kv18 hW ls (lv_sub hl [0, 1, 2, 3, 4] rfl)
          · refine lv_aload_n hx hb dX11_agreesWithSeen_30 rfl (lv_at hl 2 rfl) ?_
            refine lv_aload_n hx hb dX11_agreesWithSeen_31 rfl (lv_at hl 3 rfl) ?_
            refine lv_aload_n hx hb dX11_agreesWithSeen_32 rfl (lv_at hl 0 rfl) ?_
            refine q_getr hE hW h0 rfl q_k11 15 (by decide) rfl (hE.l wl_53) dX11_agreesWithSeen_33 (fun kb22 ekb22 hkb22a hkb22b => ?_)
            have hkb22 : q_T G kb22 = 34 := q_tag hkb22a hkb22b
            refine lv_iload hx hb dX11_agreesWithSeen_36 (lv_at hl 4 rfl) ?_
            refine q_iald hE hW hkb22 rfl (q_in kv18 (by decide) (by decide)) dX11_agreesWithSeen_38 (fun kx23 ekx23 gkx23 => ?_)
            refine q_goi hW (q_runV (As := [.ref a3, .int kx23]) (rest := []) hE hW (c_X1_hoursAs l G ks2 a2 h2 a3 (Int.le_trans (by decide) h3a) (Int.le_trans h3b (by decide)) kx23) kw_X11_222 (q_recv hE hW h2 rfl q_k1) rfl hl.1 rfl (Nat.le_of_ble_eq_true rfl) dX11_agreesWithSeen_39 ⟨by decide, by decide⟩ ⟨by decide, by decide⟩) (by decide) (fun kx27 ks25 H locs kp24 kf26 hW => ?_)
            refine lv_istore (lv' := [(5, .int kx27), (0, .ref a0), (1, .int i1), (2, .ref a2), (3, .ref a3), (4, .int kx1)]) hx hb dX11_agreesWithSeen_42 hl (by decide) rfl (fun ls hl => ?_)
            refine lv_iload hx hb dX11_agreesWithSeen_44 (lv_at hl 0 rfl) ?_
            refine lv_iconst (v := (-1)) hx hb dX11_agreesWithSeen_46 (by decide) ?_
            refine lv_icmp_ne (tgt := 55) hx hb dX11_agreesWithSeen_47 (by decide) (fun kc28 => ?_) (fun kc28 => ?_)
            · refine lv_iload hx hb dX11_agreesWithSeen_55 (lv_at hl 0 rfl) ?_
              exact jn57a _ _ _ kv18 kx27 hW ls (lv_sub hl [1, 2, 3, 4, 5] rfl)
            · have kv29 : q_V (-1) (-1) kx27 := q_eq1 (q_all kx27) (q_c (k := (-1)) (x := (-1)) (by decide)) kc28 (by decide) (by decide)
              refine lv_bipush (v := 60) hx hb dX11_agreesWithSeen_50 (by decide) ?_
              refine lv_goto (tgt := 57) hx hb dX11_agreesWithSeen_52 (by decide) ?_
              exact jn57a _ _ _ kv18 60 hW ls (lv_sub hl [1, 2, 3, 4, 5] rfl)
  refine lv_iconst (v := 0) hx hb dX11_agreesWithSeen_0 (by decide) ?_
  refine lv_istore (lv' := [(4, .int 0), (0, .ref a0), (1, .int i1), (2, .ref a2), (3, .ref a3)]) hx hb dX11_agreesWithSeen_1 hl (by decide) rfl (fun ls hl => ?_)
  exact lp3a _ _ _ _ 0 ((q_c (k := 0) (x := 0) (by decide)).w (by decide) (by decide)) hW ls (lv_sub hl [1, 2, 3, 4, 0] rfl) (Nat.lt_succ_self _)
set_option maxHeartbeats 4000000 in
set_option maxRecDepth 100000 in
theorem c_X11_kinds (l : Launch) (G : q_G) (σ : q_S) (a0 : Nat) (h0 : q_T G a0 = 26) (i1 : Int32)  : Met l yX11_kinds (Cond.code yX11_kinds cX11_kinds 5 (some .int) :: wsL_law) (q_Rm 6) (q_Pre G σ [.ref a0, .int i1]) (q_Qi G [] σ (fun r σ1 => q_V (-2147483648) 2147483647 r)) 0 0 (q_N G) := by
  refine q_ofW (ts := []) (by decide) (Nat.le_of_ble_eq_true rfl) ?_
  intro p e s m args below meth c hE hr hlocks hW ls hl
  have hE : q_E G p s m args c cX11_kinds 5 RX11 := hE
  have hx := hE.1.1
  have hb := hE.1.2.1
  have hl : lv_has ls 5 [(0, .ref a0), (1, .int i1)] := hl
  have lp21a : ∀ (n21a : Nat) (ks4 : q_S) (H : Heap) (locs : List Loc) (kb1 : Nat) (hkb1 : q_T G kb1 = 5) (kx2 : Int32) (kx3 : Int32) (vkx3 : q_V 0 4 kx3) (hW : q_Wd G [] σ s.heap ks4 H locs) (ls : Array Slot) (hl : lv_has ls 5 [(0, .ref a0), (1, .int i1), (2, .ref kb1), (3, .int kx2), (4, .int kx3)]), (4 - kx3.toInt).toNat < n21a → W p l e (q_Rm 6) s m args below meth c H locs 0 0 (MQ below (q_Qi G [] σ (fun r σ1 => q_V (-2147483648) 2147483647 r)) args s 0 0 (q_N G)) (F0 m 21 ls []) := by
    intro n21a
    induction n21a with
    | zero => intro _ _ _ _ _ _ _ _ _ _ _; exact fun h => absurd h (Nat.not_lt_zero _)
    | succ n21a ih21a =>
      intro ks4 H locs kb1 hkb1 kx2 kx3 vkx3 hW ls hl hm21a
      have jn54a : ∀ (ks7 : q_S) (H : Heap) (locs : List Loc) (kx5 : Int32) (kv6 : q_V 0 3 kx3) (hW : q_Wd G [] σ s.heap ks7 H locs) (ls : Array Slot) (hl : lv_has ls 5 [(0, .ref a0), (1, .int i1), (2, .ref kb1), (3, .int kx5), (4, .int kx3)]), W p l e (q_Rm 6) s m args below meth c H locs 0 0 (MQ below (q_Qi G [] σ (fun r σ1 => q_V (-2147483648) 2147483647 r)) args s 0 0 (q_N G)) (F0 m 54 ls []) := by
        intro ks7 H locs kx5 kv6 hW ls hl
        obtain ⟨kx8, ekx8⟩ : ∃ y : Int32, y = kx3 + 1 := ⟨_, rfl⟩
        have vkx8 : q_V 1 4 kx8 := by rw [ekx8]; exact (q_add kv6 (q_c (k := 1) (x := 1) (by decide)) (by decide) (by decide)).w (by decide) (by decide)
        have ikx8 : kx8.toInt = kx3.toInt + 1 := q_incT ekx8 kv6 (by decide) (by decide) (by decide)
        refine lv_iinc (v := kx8) (lv' := [(4, .int kx8), (0, .ref a0), (1, .int i1), (2, .ref kb1), (3, .int kx5)]) hx hb dX11_kinds_54 hl (k := 4) rfl (by rw [ekx8]; rfl) (by decide) rfl (fun ls hl => ?_)
        refine lv_goto (tgt := 21) hx hb dX11_kinds_57 (by decide) ?_
        exact ih21a _ _ _ kb1 hkb1 kx5 kx8 (vkx8.w (by decide) (by decide)) hW ls (lv_sub hl [1, 2, 3, 4, 0] rfl) (Nat.lt_of_lt_of_le (q_up (ikx8) (show q_V 1 4 kx8 from vkx8).2) (Nat.le_of_lt_succ hm21a))
      refine lv_iload hx hb dX11_kinds_21 (lv_at hl 4 rfl) ?_
      refine lv_aload_n hx hb dX11_kinds_23 rfl (lv_at hl 0 rfl) ?_
      refine q_getr hE hW h0 rfl q_k11 0 (by decide) rfl (hE.l wl_25) dX11_kinds_24 (fun kb9 ekb9 hkb9a hkb9b => ?_)
      have hkb9 : q_T G kb9 = 27 := q_tag hkb9a hkb9b
      refine q_alen hE hW hkb9 rfl dX11_kinds_27 ?_
      refine lv_eqi (y := 4) (by decide) ?_
      refine lv_icmp_ge (tgt := 60) hx hb dX11_kinds_28 (by decide) (fun kc10 => ?_) (fun kc10 => ?_)
      · have kv11 : q_V 4 4 kx3 := (q_le2 (q_c (k := 4) (x := 4) (by decide)) vkx3 kc10).w (by decide) (by decide)
        refine lv_iload_n hx hb dX11_kinds_60 rfl (lv_at hl 3 rfl) ?_
        exact q_reti hE hr hlocks hW ((q_all kx2)) dX11_kinds_61
      · have kv12 : q_V 0 3 kx3 := (q_lt1 vkx3 (q_c (k := 4) (x := 4) (by decide)) (Int32.not_le.mp kc10)).w (by decide) (by decide)
        refine lv_aload_n hx hb dX11_kinds_31 rfl (lv_at hl 0 rfl) ?_
        refine lv_iload_n hx hb dX11_kinds_32 rfl (lv_at hl 1 rfl) ?_
        refine lv_aload_n hx hb dX11_kinds_33 rfl (lv_at hl 2 rfl) ?_
        refine lv_aload_n hx hb dX11_kinds_34 rfl (lv_at hl 0 rfl) ?_
        refine q_getr hE hW h0 rfl q_k11 0 (by decide) rfl (hE.l wl_25) dX11_kinds_35 (fun kb13 ekb13 hkb13a hkb13b => ?_)
        obtain rfl : kb9 = kb13 := ekb9.symm.trans ekb13
        refine lv_iload hx hb dX11_kinds_38 (lv_at hl 4 rfl) ?_
        refine q_aald hE hW hkb9 rfl (q_in kv12 (by decide) (by decide)) dX11_kinds_40 (fun kb14 ekb14 hkb14a hkb14b => ?_)
        refine q_goi hW (q_runV (As := [.int i1, .ref kb1, .ref kb14]) (rest := []) hE hW (c_X11_agreesWithSeen l G ks4 a0 h0 i1 kb1 hkb1 kb14 (Int.le_trans (by decide) hkb14a) (Int.le_trans hkb14b (by decide))) kw_X11_257 (q_recv hE hW h0 rfl q_k11) rfl hl.1 rfl (Nat.le_of_ble_eq_true rfl) dX11_kinds_41 ⟨by decide, by decide⟩ ⟨by decide, by decide⟩) (by decide) (fun kx18 ks16 H locs kp15 kf17 hW => ?_)
        refine lv_if_eq (tgt := 54) hx hb dX11_kinds_44 (by decide) (fun kc19 => ?_) (fun kc19 => ?_)
        · have kv20 : q_V 0 0 kx18 := q_eq1 kp15 (q_c (k := 0) (x := 0) (by decide)) kc19 (by decide) (by decide)
          exact jn54a _ _ _ kx2 kv12 hW ls (lv_sub hl [0, 1, 2, 3, 4] rfl)
        · have kv21 : q_V 1 1 kx18 := q_ne1 kp15 (q_c (k := 0) (x := 0) (by decide)) kc19 (by decide)
          refine lv_iload_n hx hb dX11_kinds_47 rfl (lv_at hl 3 rfl) ?_
          refine lv_iconst (v := 1) hx hb dX11_kinds_48 (by decide) ?_
          refine lv_iload hx hb dX11_kinds_49 (lv_at hl 4 rfl) ?_
          refine lv_ishl hx hb dX11_kinds_51 ?_
          refine lv_topi (fun kx22 ekx22 => ?_)
          refine lv_ior hx hb dX11_kinds_52 ?_
          refine lv_topi (fun kx23 ekx23 => ?_)
          refine lv_istore_n (lv' := [(3, .int kx23), (0, .ref a0), (1, .int i1), (2, .ref kb1), (4, .int kx3)]) hx hb dX11_kinds_53 rfl hl (by decide) rfl (fun ls hl => ?_)
          exact jn54a _ _ _ kx23 kv12 hW ls (lv_sub hl [1, 2, 3, 0, 4] rfl)
  refine lv_aload_n hx hb dX11_kinds_0 rfl (lv_at hl 0 rfl) ?_
  refine q_getr hE hW h0 rfl q_k11 5 (by decide) rfl (hE.l wl_35) dX11_kinds_1 (fun kb24 ekb24 hkb24a hkb24b => ?_)
  have hkb24 : q_T G kb24 = 7 := q_tag hkb24a hkb24b
  refine lv_iload_n hx hb dX11_kinds_4 rfl (lv_at hl 1 rfl) ?_
  refine q_goq hW (q_runV (As := [.int i1]) (rest := []) hE hW (c_X2_cloudAt l G σ kb24 hkb24 i1) kw_X11_137 (q_recv hE hW hkb24 rfl q_k2) rfl hl.1 rfl (Nat.le_of_ble_eq_true rfl) dX11_kinds_5 ⟨by decide, by decide⟩ ⟨by decide, by decide⟩) (by decide) (fun ks26 H locs kp25 kf27 hW => ?_) (fun kb28 ks26 H locs kp25 kf27 hW => ?_)
  · refine lv_astore_nN (lv' := [(2, .null), (0, .ref a0), (1, .int i1)]) hx hb dX11_kinds_8 rfl hl (by decide) rfl (fun ls hl => ?_)
    refine lv_aload_nN hx hb dX11_kinds_9 rfl (lv_at hl 0 rfl) ?_
    refine lv_ifnonnullN hx hb dX11_kinds_10 ?_
    refine lv_bipush (v := (-2)) hx hb dX11_kinds_13 (by decide) ?_
    exact q_reti hE hr hlocks hW (((q_c (k := (-2)) (x := (-2)) (by decide)).w (by decide) (by decide))) dX11_kinds_15
  · have hkb28 : q_T G kb28 = 5 := kp25 kb28 rfl
    refine lv_astore_n (lv' := [(2, .ref kb28), (0, .ref a0), (1, .int i1)]) hx hb dX11_kinds_8 rfl hl (by decide) rfl (fun ls hl => ?_)
    refine lv_aload_n hx hb dX11_kinds_9 rfl (lv_at hl 0 rfl) ?_
    refine lv_ifnonnull hx hb dX11_kinds_10 (tgt := 16) (by decide) ?_
    refine lv_iconst (v := 0) hx hb dX11_kinds_16 (by decide) ?_
    refine lv_istore_n (lv' := [(3, .int 0), (2, .ref kb28), (0, .ref a0), (1, .int i1)]) hx hb dX11_kinds_17 rfl hl (by decide) rfl (fun ls hl => ?_)
    refine lv_iconst (v := 0) hx hb dX11_kinds_18 (by decide) ?_
    refine lv_istore (lv' := [(4, .int 0), (3, .int 0), (2, .ref kb28), (0, .ref a0), (1, .int i1)]) hx hb dX11_kinds_19 hl (by decide) rfl (fun ls hl => ?_)
    exact lp21a _ _ _ _ kb28 hkb28 0 0 ((q_c (k := 0) (x := 0) (by decide)).w (by decide) (by decide)) hW ls (lv_sub hl [3, 4, 2, 1, 0] rfl) (Nat.lt_succ_self _)
set_option maxHeartbeats 4000000 in
set_option maxRecDepth 100000 in
theorem c_X11_line (l : Launch) (G : q_G) (σ : q_S) (a0 : Nat) (h0 : q_T G a0 = 26) (i1 : Int32) (i2 : Int32) (i3 : Int32)  : Met l yX11_line (Cond.code yX11_line cX11_line 5 (some .int) :: wsL_law) (q_Rm 3) (q_Pre G σ [.ref a0, .int i1, .int i2, .int i3]) (q_Qi G [23, 24] σ (fun r σ1 => q_V (-2147483648) 2147483647 r)) 0 0 (q_N G) := by
  refine q_ofW (ts := [23, 24]) (by decide) (Nat.le_of_ble_eq_true rfl) ?_
  intro p e s m args below meth c hE hr hlocks hW ls hl
  have hE : q_E G p s m args c cX11_line 5 RX11 := hE
  have hx := hE.1.1
  have hb := hE.1.2.1
  have hl : lv_has ls 5 [(0, .ref a0), (1, .int i1), (2, .int i2), (3, .int i3)] := hl
  refine lv_aload_n hx hb dX11_line_0 rfl (lv_at hl 0 rfl) ?_
  refine lv_iload_n hx hb dX11_line_1 rfl (lv_at hl 1 rfl) ?_
  refine q_goq hW (q_runV (As := [.int i1]) (rest := []) hE hW (c_X11_lineAt l G σ a0 h0 i1) kw_X11_272 (q_recv hE hW h0 rfl q_k11) rfl hl.1 rfl (Nat.le_of_ble_eq_true rfl) dX11_line_2 ⟨by decide, by decide⟩ ⟨by decide, by decide⟩) (by decide) (fun ks2 H locs kp1 kf3 hW => ?_) (fun kb4 ks2 H locs kp1 kf3 hW => ?_)
  · refine lv_astoreN (lv' := [(4, .null), (0, .ref a0), (1, .int i1), (2, .int i2), (3, .int i3)]) hx hb dX11_line_5 hl (by decide) rfl (fun ls hl => ?_)
    refine lv_aloadN hx hb dX11_line_7 (lv_at hl 0 rfl) ?_
    refine lv_ifnonnullN hx hb dX11_line_9 ?_
    refine lv_bipush (v := (-2)) hx hb dX11_line_12 (by decide) ?_
    exact q_reti hE hr hlocks hW (((q_c (k := (-2)) (x := (-2)) (by decide)).w (by decide) (by decide))) dX11_line_14
  · have hkb4 : q_T G kb4 = 23 := kp1 kb4 rfl
    refine lv_astore (lv' := [(4, .ref kb4), (0, .ref a0), (1, .int i1), (2, .int i2), (3, .int i3)]) hx hb dX11_line_5 hl (by decide) rfl (fun ls hl => ?_)
    refine lv_aload hx hb dX11_line_7 (lv_at hl 0 rfl) ?_
    refine lv_ifnonnull hx hb dX11_line_9 (tgt := 15) (by decide) ?_
    refine lv_iload_n hx hb dX11_line_15 rfl (lv_at hl 3 rfl) ?_
    refine lv_if_lt (tgt := 30) hx hb dX11_line_16 (by decide) (fun kc5 => ?_) (fun kc5 => ?_)
    · have kv6 : q_V (-2147483648) (-1) i2 := (q_lt1 (q_all i2) (q_c (k := 0) (x := 0) (by decide)) kc5).w (by decide) (by decide)
      refine lv_bipush (v := (-3)) hx hb dX11_line_30 (by decide) ?_
      exact q_reti hE hr hlocks hW (((q_c (k := (-3)) (x := (-3)) (by decide)).w (by decide) (by decide))) dX11_line_32
    · have kv7 : q_V 0 2147483647 i2 := (q_le2 (q_c (k := 0) (x := 0) (by decide)) (q_all i2) (Int32.not_lt.mp kc5)).w (by decide) (by decide)
      refine lv_iload_n hx hb dX11_line_19 rfl (lv_at hl 3 rfl) ?_
      refine lv_iconst (v := 2) hx hb dX11_line_20 (by decide) ?_
      refine lv_icmp_gt (tgt := 30) hx hb dX11_line_21 (by decide) (fun kc8 => ?_) (fun kc8 => ?_)
      · have kv9 : q_V 3 2147483647 i2 := (q_lt2 (q_c (k := 2) (x := 2) (by decide)) kv7 kc8).w (by decide) (by decide)
        refine lv_bipush (v := (-3)) hx hb dX11_line_30 (by decide) ?_
        exact q_reti hE hr hlocks hW (((q_c (k := (-3)) (x := (-3)) (by decide)).w (by decide) (by decide))) dX11_line_32
      · have kv10 : q_V 0 2 i2 := (q_le1 kv7 (q_c (k := 2) (x := 2) (by decide)) (Int32.not_lt.mp kc8)).w (by decide) (by decide)
        refine lv_iload_n hx hb dX11_line_24 rfl (lv_at hl 4 rfl) ?_
        refine lv_bipush (v := 16) hx hb dX11_line_25 (by decide) ?_
        refine lv_icmp_le (tgt := 33) hx hb dX11_line_27 (by decide) (fun kc11 => ?_) (fun kc11 => ?_)
        · have kv12 : q_V (-2147483648) 16 i3 := (q_le1 (q_all i3) (q_c (k := 16) (x := 16) (by decide)) kc11).w (by decide) (by decide)
          refine lv_iload_n hx hb dX11_line_33 rfl (lv_at hl 4 rfl) ?_
          refine lv_if_ge (tgt := 40) hx hb dX11_line_34 (by decide) (fun kc13 => ?_) (fun kc13 => ?_)
          · have kv14 : q_V 0 16 i3 := (q_le2 (q_c (k := 0) (x := 0) (by decide)) kv12 kc13).w (by decide) (by decide)
            refine lv_aload hx hb dX11_line_40 (lv_at hl 0 rfl) ?_
            refine lv_iload_n hx hb dX11_line_42 rfl (lv_at hl 3 rfl) ?_
            refine lv_iload_n hx hb dX11_line_43 rfl (lv_at hl 4 rfl) ?_
            refine q_gov hW (q_runV (As := [.int i2, .int i3]) (rest := []) hE hW (c_X5_stretch l G ks2 kb4 hkb4 i2 i3 kv14) kw_X11_276 (q_recv hE hW hkb4 rfl q_k5) rfl hl.1 rfl (Nat.le_of_ble_eq_true rfl) dX11_line_44 ⟨by decide, by decide⟩ ⟨by decide, by decide⟩) (by decide) (fun ks16 H locs kp15 kf17 hW => ?_)
            refine lv_iload_n hx hb dX11_line_47 rfl (lv_at hl 4 rfl) ?_
            exact q_reti hE hr hlocks hW ((kv14.w (by decide) (by decide))) dX11_line_48
          · have kv18 : q_V (-2147483648) (-1) i3 := (q_lt1 kv12 (q_c (k := 0) (x := 0) (by decide)) (Int32.not_le.mp kc13)).w (by decide) (by decide)
            refine lv_bipush (v := (-16)) hx hb dX11_line_37 (by decide) ?_
            exact q_reti hE hr hlocks hW (((q_c (k := (-16)) (x := (-16)) (by decide)).w (by decide) (by decide))) dX11_line_39
        · have kv19 : q_V 17 2147483647 i3 := (q_lt2 (q_c (k := 16) (x := 16) (by decide)) (q_all i3) (Int32.not_le.mp kc11)).w (by decide) (by decide)
          refine lv_bipush (v := (-3)) hx hb dX11_line_30 (by decide) ?_
          exact q_reti hE hr hlocks hW (((q_c (k := (-3)) (x := (-3)) (by decide)).w (by decide) (by decide))) dX11_line_32
set_option maxHeartbeats 4000000 in
set_option maxRecDepth 100000 in
theorem c_X11_pin (l : Launch) (G : q_G) (σ : q_S) (a0 : Nat) (h0 : q_T G a0 = 26) (i1 : Int32) (i2 : Int32) (i3 : Int32) (i4 : Int32)  : Met l yX11_pin (Cond.code yX11_pin cX11_pin 7 (some .int) :: wsL_law) (q_Rm 3) (q_Pre G σ [.ref a0, .int i1, .int i2, .int i3, .int i4]) (q_Qi G [24, 25] σ (fun r σ1 => q_V (-2147483648) 2147483647 r)) 0 0 (q_N G) := by
  refine q_ofW (ts := [24, 25]) (by decide) (Nat.le_of_ble_eq_true rfl) ?_
  intro p e s m args below meth c hE hr hlocks hW ls hl
  have hE : q_E G p s m args c cX11_pin 7 RX11 := hE
  have hx := hE.1.1
  have hb := hE.1.2.1
  have hl : lv_has ls 7 [(0, .ref a0), (1, .int i1), (2, .int i2), (3, .int i3), (4, .int i4)] := hl
  have jn106a : ∀ (ks4 : q_S) (H : Heap) (locs : List Loc) (kv1 : q_V 0 15 i2) (kb2 : Nat) (hkb2 : q_T G kb2 = 23) (kx3 : Int32) (vkx3 : q_V 0 2 kx3) (hW : q_Wd G [24, 25] σ s.heap ks4 H locs) (ls : Array Slot) (hl : lv_has ls 7 [(2, .int i2), (4, .int i4), (5, .ref kb2)]), W p l e (q_Rm 3) s m args below meth c H locs 0 0 (MQ below (q_Qi G [24, 25] σ (fun r σ1 => q_V (-2147483648) 2147483647 r)) args s 0 0 (q_N G)) (F0 m 106 ls [.int kx3]) := by
    intro ks4 H locs kv1 kb2 hkb2 kx3 vkx3 hW ls hl
    refine lv_istore (lv' := [(6, .int kx3), (2, .int i2), (4, .int i4), (5, .ref kb2)]) hx hb dX11_pin_106 hl (by decide) rfl (fun ls hl => ?_)
    refine lv_aload hx hb dX11_pin_108 (lv_at hl 3 rfl) ?_
    refine lv_iload hx hb dX11_pin_110 (lv_at hl 0 rfl) ?_
    refine q_goi hW (q_runV (As := [.int kx3]) (rest := []) hE hW (c_X5_mayHold l G ks4 kb2 hkb2 kx3) kw_X11_284 (q_recv hE hW hkb2 rfl q_k5) rfl hl.1 rfl (Nat.le_of_ble_eq_true rfl) dX11_pin_112 ⟨by decide, by decide⟩ ⟨by decide, by decide⟩) (by decide) (fun kx8 ks6 H locs kp5 kf7 hW => ?_)
    refine lv_if_ne (tgt := 121) hx hb dX11_pin_115 (by decide) (fun kc9 => ?_) (fun kc9 => ?_)
    · have kv10 : q_V 1 1 kx8 := q_ne1 kp5 (q_c (k := 0) (x := 0) (by decide)) kc9 (by decide)
      refine lv_aload hx hb dX11_pin_121 (lv_at hl 3 rfl) ?_
      refine lv_iload_n hx hb dX11_pin_123 rfl (lv_at hl 1 rfl) ?_
      refine lv_iload hx hb dX11_pin_124 (lv_at hl 0 rfl) ?_
      refine lv_iload hx hb dX11_pin_126 (lv_at hl 2 rfl) ?_
      refine q_gov hW (q_runV (As := [.int i2, .int kx3, .int i4]) (rest := []) hE hW (c_X5_put l G ks6 kb2 hkb2 i2 kx3 i4) kw_X11_287 (q_recv hE hW hkb2 rfl q_k5) rfl hl.1 rfl (Nat.le_of_ble_eq_true rfl) dX11_pin_128 ⟨by decide, by decide⟩ ⟨by decide, by decide⟩) (by decide) (fun ks12 H locs kp11 kf13 hW => ?_)
      refine lv_iconst (v := 1) hx hb dX11_pin_131 (by decide) ?_
      exact q_reti hE hr hlocks hW (((q_c (k := 1) (x := 1) (by decide)).w (by decide) (by decide))) dX11_pin_132
    · have kv14 : q_V 0 0 kx8 := q_eq1 kp5 (q_c (k := 0) (x := 0) (by decide)) kc9 (by decide) (by decide)
      refine lv_bipush (v := (-13)) hx hb dX11_pin_118 (by decide) ?_
      exact q_reti hE hr hlocks hW (((q_c (k := (-13)) (x := (-13)) (by decide)).w (by decide) (by decide))) dX11_pin_120
  have jn64a : ∀ (ks17 : q_S) (H : Heap) (locs : List Loc) (kv15 : q_V 0 2 i3) (kb16 : Nat) (hkb16 : q_T G kb16 = 23) (hW : q_Wd G [24, 25] σ s.heap ks17 H locs) (ls : Array Slot) (hl : lv_has ls 7 [(2, .int i2), (3, .int i3), (4, .int i4), (5, .ref kb16)]), W p l e (q_Rm 3) s m args below meth c H locs 0 0 (MQ below (q_Qi G [24, 25] σ (fun r σ1 => q_V (-2147483648) 2147483647 r)) args s 0 0 (q_N G)) (F0 m 64 ls []) := by
    intro ks17 H locs kv15 kb16 hkb16 hW ls hl
    refine lv_aload hx hb dX11_pin_64 (lv_at hl 3 rfl) ?_
    refine q_geti hE hW hkb16 rfl q_k5 0 (by decide) rfl (hE.n 37 rfl) dX11_pin_66 (fun kx18 ekx18 vkx18 => ?_)
    refine lv_if_ne (tgt := 75) hx hb dX11_pin_69 (by decide) (fun kc19 => ?_) (fun kc19 => ?_)
    · have kv20 : q_V 1 1 kx18 := q_ne1 vkx18 (q_c (k := 0) (x := 0) (by decide)) kc19 (by decide)
      refine lv_aload hx hb dX11_pin_75 (lv_at hl 3 rfl) ?_
      refine lv_iload_n hx hb dX11_pin_77 rfl (lv_at hl 0 rfl) ?_
      refine lv_iconst (v := 1) hx hb dX11_pin_78 (by decide) ?_
      refine q_goi hW (q_runV (As := [.int i2, .int 1]) (rest := []) hE hW (c_X5_hasPegs l G ks17 kb16 hkb16 i2 1) kw_X11_280 (q_recv hE hW hkb16 rfl q_k5) rfl hl.1 rfl (Nat.le_of_ble_eq_true rfl) dX11_pin_79 ⟨by decide, by decide⟩ ⟨by decide, by decide⟩) (by decide) (fun kx24 ks22 H locs kp21 kf23 hW => ?_)
      refine lv_if_ne (tgt := 88) hx hb dX11_pin_82 (by decide) (fun kc25 => ?_) (fun kc25 => ?_)
      · have kh26 := kp21.2 kc25
        have kv27 : q_V 0 16 i2 := q_both (q_all i2) (q_hp1 kh26) (by decide) (by decide)
        have kv28 : q_V 0 15 i2 := ⟨kv27.1, q_hp3 kh26 (by decide)⟩
        have kv29 : q_V 1 1 kx24 := q_ne1 kp21.1 (q_c (k := 0) (x := 0) (by decide)) kc25 (by decide)
        refine lv_iload_n hx hb dX11_pin_88 rfl (lv_at hl 1 rfl) ?_
        refine lv_if_ne (tgt := 96) hx hb dX11_pin_89 (by decide) (fun kc30 => ?_) (fun kc30 => ?_)
        · have kv31 : q_V 1 2 i3 := q_ne1 kv15 (q_c (k := 0) (x := 0) (by decide)) kc30 (by decide)
          refine lv_iload_n hx hb dX11_pin_96 rfl (lv_at hl 1 rfl) ?_
          refine lv_iconst (v := 1) hx hb dX11_pin_97 (by decide) ?_
          refine lv_icmp_ne (tgt := 105) hx hb dX11_pin_98 (by decide) (fun kc32 => ?_) (fun kc32 => ?_)
          · have kv33 : q_V 2 2 i3 := q_ne1 kv31 (q_c (k := 1) (x := 1) (by decide)) kc32 (by decide)
            refine lv_iconst (v := 0) hx hb dX11_pin_105 (by decide) ?_
            exact jn106a _ _ _ kv28 kb16 hkb16 0 ((q_c (k := 0) (x := 0) (by decide)).w (by decide) (by decide)) hW ls (lv_sub hl [0, 2, 3] rfl)
          · have kv34 : q_V 1 1 i3 := q_eq1 kv31 (q_c (k := 1) (x := 1) (by decide)) kc32 (by decide) (by decide)
            refine lv_iconst (v := 2) hx hb dX11_pin_101 (by decide) ?_
            refine lv_goto (tgt := 106) hx hb dX11_pin_102 (by decide) ?_
            exact jn106a _ _ _ kv28 kb16 hkb16 2 ((q_c (k := 2) (x := 2) (by decide)).w (by decide) (by decide)) hW ls (lv_sub hl [0, 2, 3] rfl)
        · have kv35 : q_V 0 0 i3 := q_eq1 kv15 (q_c (k := 0) (x := 0) (by decide)) kc30 (by decide) (by decide)
          refine lv_iconst (v := 1) hx hb dX11_pin_92 (by decide) ?_
          refine lv_goto (tgt := 106) hx hb dX11_pin_93 (by decide) ?_
          exact jn106a _ _ _ kv28 kb16 hkb16 1 ((q_c (k := 1) (x := 1) (by decide)).w (by decide) (by decide)) hW ls (lv_sub hl [0, 2, 3] rfl)
      · have kv36 : q_V 0 0 kx24 := q_eq1 kp21.1 (q_c (k := 0) (x := 0) (by decide)) kc25 (by decide) (by decide)
        refine lv_bipush (v := (-12)) hx hb dX11_pin_85 (by decide) ?_
        exact q_reti hE hr hlocks hW (((q_c (k := (-12)) (x := (-12)) (by decide)).w (by decide) (by decide))) dX11_pin_87
    · have kv37 : q_V 0 0 kx18 := q_eq1 vkx18 (q_c (k := 0) (x := 0) (by decide)) kc19 (by decide) (by decide)
      refine lv_bipush (v := (-11)) hx hb dX11_pin_72 (by decide) ?_
      exact q_reti hE hr hlocks hW (((q_c (k := (-11)) (x := (-11)) (by decide)).w (by decide) (by decide))) dX11_pin_74
  have jn31a : ∀ (ks39 : q_S) (H : Heap) (locs : List Loc) (kb38 : Nat) (hkb38 : q_T G kb38 = 23) (hW : q_Wd G [24, 25] σ s.heap ks39 H locs) (ls : Array Slot) (hl : lv_has ls 7 [(2, .int i2), (3, .int i3), (4, .int i4), (5, .ref kb38)]), W p l e (q_Rm 3) s m args below meth c H locs 0 0 (MQ below (q_Qi G [24, 25] σ (fun r σ1 => q_V (-2147483648) 2147483647 r)) args s 0 0 (q_N G)) (F0 m 31 ls []) := by
    intro ks39 H locs kb38 hkb38 hW ls hl
    refine lv_iload_n hx hb dX11_pin_31 rfl (lv_at hl 1 rfl) ?_
    refine lv_if_lt (tgt := 61) hx hb dX11_pin_32 (by decide) (fun kc40 => ?_) (fun kc40 => ?_)
    · have kv41 : q_V (-2147483648) (-1) i3 := (q_lt1 (q_all i3) (q_c (k := 0) (x := 0) (by decide)) kc40).w (by decide) (by decide)
      refine lv_bipush (v := (-3)) hx hb dX11_pin_61 (by decide) ?_
      exact q_reti hE hr hlocks hW (((q_c (k := (-3)) (x := (-3)) (by decide)).w (by decide) (by decide))) dX11_pin_63
    · have kv42 : q_V 0 2147483647 i3 := (q_le2 (q_c (k := 0) (x := 0) (by decide)) (q_all i3) (Int32.not_lt.mp kc40)).w (by decide) (by decide)
      refine lv_iload_n hx hb dX11_pin_35 rfl (lv_at hl 1 rfl) ?_
      refine lv_iconst (v := 2) hx hb dX11_pin_36 (by decide) ?_
      refine lv_icmp_gt (tgt := 61) hx hb dX11_pin_37 (by decide) (fun kc43 => ?_) (fun kc43 => ?_)
      · have kv44 : q_V 3 2147483647 i3 := (q_lt2 (q_c (k := 2) (x := 2) (by decide)) kv42 kc43).w (by decide) (by decide)
        refine lv_bipush (v := (-3)) hx hb dX11_pin_61 (by decide) ?_
        exact q_reti hE hr hlocks hW (((q_c (k := (-3)) (x := (-3)) (by decide)).w (by decide) (by decide))) dX11_pin_63
      · have kv45 : q_V 0 2 i3 := (q_le1 kv42 (q_c (k := 2) (x := 2) (by decide)) (Int32.not_lt.mp kc43)).w (by decide) (by decide)
        refine lv_iload_n hx hb dX11_pin_40 rfl (lv_at hl 1 rfl) ?_
        refine lv_iconst (v := 1) hx hb dX11_pin_41 (by decide) ?_
        refine lv_icmp_ne (tgt := 64) hx hb dX11_pin_42 (by decide) (fun kc46 => ?_) (fun kc46 => ?_)
        · exact jn64a _ _ _ kv45 kb38 hkb38 hW ls (lv_sub hl [0, 1, 2, 3] rfl)
        · have kv47 : q_V 1 1 i3 := q_eq1 kv45 (q_c (k := 1) (x := 1) (by decide)) kc46 (by decide) (by decide)
          refine lv_iload hx hb dX11_pin_45 (lv_at hl 2 rfl) ?_
          refine lv_sipush (v := (-999)) hx hb dX11_pin_47 (by decide) ?_
          refine lv_icmp_lt (tgt := 61) hx hb dX11_pin_50 (by decide) (fun kc48 => ?_) (fun kc48 => ?_)
          · have kv49 : q_V (-2147483648) (-1000) i4 := (q_lt1 (q_all i4) (q_c (k := (-999)) (x := (-999)) (by decide)) kc48).w (by decide) (by decide)
            refine lv_bipush (v := (-3)) hx hb dX11_pin_61 (by decide) ?_
            exact q_reti hE hr hlocks hW (((q_c (k := (-3)) (x := (-3)) (by decide)).w (by decide) (by decide))) dX11_pin_63
          · have kv50 : q_V (-999) 2147483647 i4 := (q_le2 (q_c (k := (-999)) (x := (-999)) (by decide)) (q_all i4) (Int32.not_lt.mp kc48)).w (by decide) (by decide)
            refine lv_iload hx hb dX11_pin_53 (lv_at hl 2 rfl) ?_
            refine lv_sipush (v := 999) hx hb dX11_pin_55 (by decide) ?_
            refine lv_icmp_le (tgt := 64) hx hb dX11_pin_58 (by decide) (fun kc51 => ?_) (fun kc51 => ?_)
            · have kv52 : q_V (-999) 999 i4 := (q_le1 kv50 (q_c (k := 999) (x := 999) (by decide)) kc51).w (by decide) (by decide)
              exact jn64a _ _ _ (kv47.w (by decide) (by decide)) kb38 hkb38 hW ls (lv_sub hl [0, 1, 2, 3] rfl)
            · have kv53 : q_V 1000 2147483647 i4 := (q_lt2 (q_c (k := 999) (x := 999) (by decide)) kv50 (Int32.not_le.mp kc51)).w (by decide) (by decide)
              refine lv_bipush (v := (-3)) hx hb dX11_pin_61 (by decide) ?_
              exact q_reti hE hr hlocks hW (((q_c (k := (-3)) (x := (-3)) (by decide)).w (by decide) (by decide))) dX11_pin_63
  refine lv_aload_n hx hb dX11_pin_0 rfl (lv_at hl 0 rfl) ?_
  refine lv_iload_n hx hb dX11_pin_1 rfl (lv_at hl 1 rfl) ?_
  refine q_goq hW (q_runV (As := [.int i1]) (rest := []) hE hW (c_X11_lineAt l G σ a0 h0 i1) kw_X11_272 (q_recv hE hW h0 rfl q_k11) rfl hl.1 rfl (Nat.le_of_ble_eq_true rfl) dX11_pin_2 ⟨by decide, by decide⟩ ⟨by decide, by decide⟩) (by decide) (fun ks55 H locs kp54 kf56 hW => ?_) (fun kb57 ks55 H locs kp54 kf56 hW => ?_)
  · refine lv_astoreN (lv' := [(5, .null), (0, .ref a0), (1, .int i1), (2, .int i2), (3, .int i3), (4, .int i4)]) hx hb dX11_pin_5 hl (by decide) rfl (fun ls hl => ?_)
    refine lv_aloadN hx hb dX11_pin_7 (lv_at hl 0 rfl) ?_
    refine lv_ifnullN hx hb dX11_pin_9 (tgt := 28) (by decide) ?_
    refine lv_bipush (v := (-2)) hx hb dX11_pin_28 (by decide) ?_
    exact q_reti hE hr hlocks hW (((q_c (k := (-2)) (x := (-2)) (by decide)).w (by decide) (by decide))) dX11_pin_30
  · have hkb57 : q_T G kb57 = 23 := kp54 kb57 rfl
    refine lv_astore (lv' := [(5, .ref kb57), (0, .ref a0), (1, .int i1), (2, .int i2), (3, .int i3), (4, .int i4)]) hx hb dX11_pin_5 hl (by decide) rfl (fun ls hl => ?_)
    refine lv_aload hx hb dX11_pin_7 (lv_at hl 0 rfl) ?_
    refine lv_ifnull hx hb dX11_pin_9 ?_
    refine lv_iload_n hx hb dX11_pin_12 rfl (lv_at hl 4 rfl) ?_
    refine lv_if_ne (tgt := 31) hx hb dX11_pin_13 (by decide) (fun kc58 => ?_) (fun kc58 => ?_)
    · exact jn31a _ _ _ kb57 hkb57 hW ls (lv_sub hl [3, 4, 5, 0] rfl)
    · have kv59 : q_V 0 0 i3 := q_eq1 (q_all i3) (q_c (k := 0) (x := 0) (by decide)) kc58 (by decide) (by decide)
      refine lv_aload_n hx hb dX11_pin_16 rfl (lv_at hl 1 rfl) ?_
      refine q_getr hE hW h0 rfl q_k11 5 (by decide) rfl (hE.l wl_35) dX11_pin_17 (fun kb60 ekb60 hkb60a hkb60b => ?_)
      have hkb60 : q_T G kb60 = 7 := q_tag hkb60a hkb60b
      refine lv_iload hx hb dX11_pin_20 (lv_at hl 5 rfl) ?_
      refine q_goq hW (q_runV (As := [.int i4]) (rest := []) hE hW (c_X2_cloudAt l G ks55 kb60 hkb60 i4) kw_X11_137 (q_recv hE hW hkb60 rfl q_k2) rfl hl.1 rfl (Nat.le_of_ble_eq_true rfl) dX11_pin_22 ⟨by decide, by decide⟩ ⟨by decide, by decide⟩) (by decide) (fun ks62 H locs kp61 kf63 hW => ?_) (fun kb64 ks62 H locs kp61 kf63 hW => ?_)
      · refine lv_ifnonnullN hx hb dX11_pin_25 ?_
        refine lv_bipush (v := (-2)) hx hb dX11_pin_28 (by decide) ?_
        exact q_reti hE hr hlocks hW (((q_c (k := (-2)) (x := (-2)) (by decide)).w (by decide) (by decide))) dX11_pin_30
      · have hkb64 : q_T G kb64 = 5 := kp61 kb64 rfl
        refine lv_ifnonnull hx hb dX11_pin_25 (tgt := 31) (by decide) ?_
        exact jn31a _ _ _ kb57 hkb57 hW ls (lv_sub hl [3, 4, 5, 0] rfl)
set_option maxHeartbeats 4000000 in
set_option maxRecDepth 100000 in
theorem c_X11_peg (l : Launch) (G : q_G) (σ : q_S) (a0 : Nat) (h0 : q_T G a0 = 26) (i1 : Int32) (i2 : Int32) (i3 : Int32)  : Met l yX11_peg (Cond.code yX11_peg cX11_peg 6 (some .int) :: wsL_law) (q_Rm 3) (q_Pre G σ [.ref a0, .int i1, .int i2, .int i3]) (q_Qi G [] σ (fun r σ1 => q_V (-2147483648) 2147483647 r)) 0 0 (q_N G) := by
  refine q_ofW (ts := []) (by decide) (Nat.le_of_ble_eq_true rfl) ?_
  intro p e s m args below meth c hE hr hlocks hW ls hl
  have hE : q_E G p s m args c cX11_peg 6 RX11 := hE
  have hx := hE.1.1
  have hb := hE.1.2.1
  have hl : lv_has ls 6 [(0, .ref a0), (1, .int i1), (2, .int i2), (3, .int i3)] := hl
  have jn87a : ∀ (ks6 : q_S) (H : Heap) (locs : List Loc) (kv1 : q_V 0 15 i2) (kb2 : Nat) (hkb2 : q_T G kb2 = 23) (kx3 : Int32) (kx4 : Int32) (kx5 : Int32) (vkx5 : q_V 1 2 kx5) (hW : q_Wd G [] σ s.heap ks6 H locs) (ls : Array Slot) (hl : lv_has ls 6 [(2, .int i2), (4, .ref kb2), (5, .int kx3)]), W p l e (q_Rm 3) s m args below meth c H locs 0 0 (MQ below (q_Qi G [] σ (fun r σ1 => q_V (-2147483648) 2147483647 r)) args s 0 0 (q_N G)) (F0 m 87 ls [.int kx5, .int kx4]) := by
    intro ks6 H locs kv1 kb2 hkb2 kx3 kx4 kx5 vkx5 hW ls hl
    refine lv_icmp_eq (tgt := 93) hx hb dX11_peg_87 (by decide) (fun kc7 => ?_) (fun kc7 => ?_)
    · have kv8 : q_V 1 2 kx4 := q_eq1 (q_all kx4) vkx5 kc7 (by decide) (by decide)
      refine lv_iload hx hb dX11_peg_93 (lv_at hl 2 rfl) ?_
      refine lv_iconst (v := 1) hx hb dX11_peg_95 (by decide) ?_
      refine lv_icmp_ne (tgt := 109) hx hb dX11_peg_96 (by decide) (fun kc9 => ?_) (fun kc9 => ?_)
      · refine lv_aload hx hb dX11_peg_109 (lv_at hl 1 rfl) ?_
        refine q_getr hE hW hkb2 rfl q_k5 4 (by decide) rfl (hE.n 40 rfl) dX11_peg_111 (fun kb10 ekb10 hkb10a hkb10b => ?_)
        have hkb10 : q_T G kb10 = 25 := q_tag hkb10a hkb10b
        refine lv_iload_n hx hb dX11_peg_114 rfl (lv_at hl 0 rfl) ?_
        refine q_iald hE hW hkb10 rfl (q_in kv1 (by decide) (by decide)) dX11_peg_115 (fun kx11 ekx11 gkx11 => ?_)
        refine lv_sipush (v := 5000) hx hb dX11_peg_116 (by decide) ?_
        refine lv_iadd hx hb dX11_peg_119 ?_
        refine lv_topi (fun kx12 ekx12 => ?_)
        exact q_reti hE hr hlocks hW ((q_all kx12)) dX11_peg_120
      · have kv13 : q_V 1 1 kx3 := q_eq1 (q_all kx3) (q_c (k := 1) (x := 1) (by decide)) kc9 (by decide) (by decide)
        refine lv_aload hx hb dX11_peg_99 (lv_at hl 1 rfl) ?_
        refine q_getr hE hW hkb2 rfl q_k5 4 (by decide) rfl (hE.n 40 rfl) dX11_peg_101 (fun kb14 ekb14 hkb14a hkb14b => ?_)
        have hkb14 : q_T G kb14 = 25 := q_tag hkb14a hkb14b
        refine lv_iload_n hx hb dX11_peg_104 rfl (lv_at hl 0 rfl) ?_
        refine q_iald hE hW hkb14 rfl (q_in kv1 (by decide) (by decide)) dX11_peg_105 (fun kx15 ekx15 gkx15 => ?_)
        refine lv_goto (tgt := 120) hx hb dX11_peg_106 (by decide) ?_
        exact q_reti hE hr hlocks hW ((q_all kx15)) dX11_peg_120
    · refine lv_bipush (v := (-14)) hx hb dX11_peg_90 (by decide) ?_
      exact q_reti hE hr hlocks hW (((q_c (k := (-14)) (x := (-14)) (by decide)).w (by decide) (by decide))) dX11_peg_92
  refine lv_aload_n hx hb dX11_peg_0 rfl (lv_at hl 0 rfl) ?_
  refine lv_iload_n hx hb dX11_peg_1 rfl (lv_at hl 1 rfl) ?_
  refine q_goq hW (q_runV (As := [.int i1]) (rest := []) hE hW (c_X11_lineAt l G σ a0 h0 i1) kw_X11_272 (q_recv hE hW h0 rfl q_k11) rfl hl.1 rfl (Nat.le_of_ble_eq_true rfl) dX11_peg_2 ⟨by decide, by decide⟩ ⟨by decide, by decide⟩) (by decide) (fun ks17 H locs kp16 kf18 hW => ?_) (fun kb19 ks17 H locs kp16 kf18 hW => ?_)
  · refine lv_astoreN (lv' := [(4, .null), (0, .ref a0), (1, .int i1), (2, .int i2), (3, .int i3)]) hx hb dX11_peg_5 hl (by decide) rfl (fun ls hl => ?_)
    refine lv_aloadN hx hb dX11_peg_7 (lv_at hl 0 rfl) ?_
    refine lv_ifnonnullN hx hb dX11_peg_9 ?_
    refine lv_bipush (v := (-2)) hx hb dX11_peg_12 (by decide) ?_
    exact q_reti hE hr hlocks hW (((q_c (k := (-2)) (x := (-2)) (by decide)).w (by decide) (by decide))) dX11_peg_14
  · have hkb19 : q_T G kb19 = 23 := kp16 kb19 rfl
    refine lv_astore (lv' := [(4, .ref kb19), (0, .ref a0), (1, .int i1), (2, .int i2), (3, .int i3)]) hx hb dX11_peg_5 hl (by decide) rfl (fun ls hl => ?_)
    refine lv_aload hx hb dX11_peg_7 (lv_at hl 0 rfl) ?_
    refine lv_ifnonnull hx hb dX11_peg_9 (tgt := 15) (by decide) ?_
    refine lv_iload_n hx hb dX11_peg_15 rfl (lv_at hl 4 rfl) ?_
    refine lv_if_lt (tgt := 24) hx hb dX11_peg_16 (by decide) (fun kc20 => ?_) (fun kc20 => ?_)
    · have kv21 : q_V (-2147483648) (-1) i3 := (q_lt1 (q_all i3) (q_c (k := 0) (x := 0) (by decide)) kc20).w (by decide) (by decide)
      refine lv_bipush (v := (-3)) hx hb dX11_peg_24 (by decide) ?_
      exact q_reti hE hr hlocks hW (((q_c (k := (-3)) (x := (-3)) (by decide)).w (by decide) (by decide))) dX11_peg_26
    · have kv22 : q_V 0 2147483647 i3 := (q_le2 (q_c (k := 0) (x := 0) (by decide)) (q_all i3) (Int32.not_lt.mp kc20)).w (by decide) (by decide)
      refine lv_iload_n hx hb dX11_peg_19 rfl (lv_at hl 4 rfl) ?_
      refine lv_iconst (v := 2) hx hb dX11_peg_20 (by decide) ?_
      refine lv_icmp_le (tgt := 27) hx hb dX11_peg_21 (by decide) (fun kc23 => ?_) (fun kc23 => ?_)
      · have kv24 : q_V 0 2 i3 := (q_le1 kv22 (q_c (k := 2) (x := 2) (by decide)) kc23).w (by decide) (by decide)
        refine lv_aload hx hb dX11_peg_27 (lv_at hl 0 rfl) ?_
        refine q_geti hE hW hkb19 rfl q_k5 0 (by decide) rfl (hE.n 37 rfl) dX11_peg_29 (fun kx25 ekx25 vkx25 => ?_)
        refine lv_if_ne (tgt := 38) hx hb dX11_peg_32 (by decide) (fun kc26 => ?_) (fun kc26 => ?_)
        · have kv27 : q_V 1 1 kx25 := q_ne1 vkx25 (q_c (k := 0) (x := 0) (by decide)) kc26 (by decide)
          refine lv_aload hx hb dX11_peg_38 (lv_at hl 0 rfl) ?_
          refine lv_iload_n hx hb dX11_peg_40 rfl (lv_at hl 3 rfl) ?_
          refine lv_iconst (v := 1) hx hb dX11_peg_41 (by decide) ?_
          refine q_goi hW (q_runV (As := [.int i2, .int 1]) (rest := []) hE hW (c_X5_hasPegs l G ks17 kb19 hkb19 i2 1) kw_X11_280 (q_recv hE hW hkb19 rfl q_k5) rfl hl.1 rfl (Nat.le_of_ble_eq_true rfl) dX11_peg_42 ⟨by decide, by decide⟩ ⟨by decide, by decide⟩) (by decide) (fun kx31 ks29 H locs kp28 kf30 hW => ?_)
          refine lv_if_ne (tgt := 51) hx hb dX11_peg_45 (by decide) (fun kc32 => ?_) (fun kc32 => ?_)
          · have kh33 := kp28.2 kc32
            have kv34 : q_V 0 16 i2 := q_both (q_all i2) (q_hp1 kh33) (by decide) (by decide)
            have kv35 : q_V 0 15 i2 := ⟨kv34.1, q_hp3 kh33 (by decide)⟩
            have kv36 : q_V 1 1 kx31 := q_ne1 kp28.1 (q_c (k := 0) (x := 0) (by decide)) kc32 (by decide)
            refine lv_aload hx hb dX11_peg_51 (lv_at hl 0 rfl) ?_
            refine q_getr hE hW hkb19 rfl q_k5 3 (by decide) rfl (hE.n 39 rfl) dX11_peg_53 (fun kb37 ekb37 hkb37a hkb37b => ?_)
            have hkb37 : q_T G kb37 = 24 := q_tag hkb37a hkb37b
            refine lv_iload_n hx hb dX11_peg_56 rfl (lv_at hl 3 rfl) ?_
            refine q_iald hE hW hkb37 rfl (q_in kv35 (by decide) (by decide)) dX11_peg_57 (fun kx38 ekx38 gkx38 => ?_)
            refine lv_istore (lv' := [(5, .int kx38), (4, .ref kb19), (0, .ref a0), (1, .int i1), (2, .int i2), (3, .int i3)]) hx hb dX11_peg_58 hl (by decide) rfl (fun ls hl => ?_)
            refine lv_iload hx hb dX11_peg_60 (lv_at hl 0 rfl) ?_
            refine lv_if_ne (tgt := 68) hx hb dX11_peg_62 (by decide) (fun kc39 => ?_) (fun kc39 => ?_)
            · refine lv_iload_n hx hb dX11_peg_68 rfl (lv_at hl 5 rfl) ?_
              refine lv_iconst (v := 2) hx hb dX11_peg_69 (by decide) ?_
              refine lv_icmp_ne (tgt := 76) hx hb dX11_peg_70 (by decide) (fun kc40 => ?_) (fun kc40 => ?_)
              · have kv41 : q_V 0 1 i3 := q_ne2 kv24 (q_c (k := 2) (x := 2) (by decide)) kc40 (by decide)
                refine lv_iload hx hb dX11_peg_76 (lv_at hl 0 rfl) ?_
                refine lv_iload_n hx hb dX11_peg_78 rfl (lv_at hl 5 rfl) ?_
                refine lv_if_ne (tgt := 86) hx hb dX11_peg_79 (by decide) (fun kc42 => ?_) (fun kc42 => ?_)
                · have kv43 : q_V 1 1 i3 := q_ne1 kv41 (q_c (k := 0) (x := 0) (by decide)) kc42 (by decide)
                  refine lv_iconst (v := 2) hx hb dX11_peg_86 (by decide) ?_
                  exact jn87a _ _ _ kv35 kb19 hkb19 kx38 kx38 2 ((q_c (k := 2) (x := 2) (by decide)).w (by decide) (by decide)) hW ls (lv_sub hl [4, 1, 0] rfl)
                · have kv44 : q_V 0 0 i3 := q_eq1 kv41 (q_c (k := 0) (x := 0) (by decide)) kc42 (by decide) (by decide)
                  refine lv_iconst (v := 1) hx hb dX11_peg_82 (by decide) ?_
                  refine lv_goto (tgt := 87) hx hb dX11_peg_83 (by decide) ?_
                  exact jn87a _ _ _ kv35 kb19 hkb19 kx38 kx38 1 ((q_c (k := 1) (x := 1) (by decide)).w (by decide) (by decide)) hW ls (lv_sub hl [4, 1, 0] rfl)
              · have kv45 : q_V 2 2 i3 := q_eq1 kv24 (q_c (k := 2) (x := 2) (by decide)) kc40 (by decide) (by decide)
                refine lv_iload hx hb dX11_peg_73 (lv_at hl 0 rfl) ?_
                exact q_reti hE hr hlocks hW ((q_all kx38)) dX11_peg_75
            · have kv46 : q_V 0 0 kx38 := q_eq1 (q_all kx38) (q_c (k := 0) (x := 0) (by decide)) kc39 (by decide) (by decide)
              refine lv_bipush (v := (-15)) hx hb dX11_peg_65 (by decide) ?_
              exact q_reti hE hr hlocks hW (((q_c (k := (-15)) (x := (-15)) (by decide)).w (by decide) (by decide))) dX11_peg_67
          · have kv47 : q_V 0 0 kx31 := q_eq1 kp28.1 (q_c (k := 0) (x := 0) (by decide)) kc32 (by decide) (by decide)
            refine lv_bipush (v := (-12)) hx hb dX11_peg_48 (by decide) ?_
            exact q_reti hE hr hlocks hW (((q_c (k := (-12)) (x := (-12)) (by decide)).w (by decide) (by decide))) dX11_peg_50
        · have kv48 : q_V 0 0 kx25 := q_eq1 vkx25 (q_c (k := 0) (x := 0) (by decide)) kc26 (by decide) (by decide)
          refine lv_bipush (v := (-11)) hx hb dX11_peg_35 (by decide) ?_
          exact q_reti hE hr hlocks hW (((q_c (k := (-11)) (x := (-11)) (by decide)).w (by decide) (by decide))) dX11_peg_37
      · have kv49 : q_V 3 2147483647 i3 := (q_lt2 (q_c (k := 2) (x := 2) (by decide)) kv22 (Int32.not_le.mp kc23)).w (by decide) (by decide)
        refine lv_bipush (v := (-3)) hx hb dX11_peg_24 (by decide) ?_
        exact q_reti hE hr hlocks hW (((q_c (k := (-3)) (x := (-3)) (by decide)).w (by decide) (by decide))) dX11_peg_26
set_option maxHeartbeats 4000000 in
set_option maxRecDepth 100000 in
theorem c_X11_move (l : Launch) (G : q_G) (σ : q_S) (a0 : Nat) (h0 : q_T G a0 = 26) (i1 : Int32) (i2 : Int32) (i3 : Int32) (i4 : Int32) (i5 : Int32)  : Met l yX11_move (Cond.code yX11_move cX11_move 9 (some .int) :: wsL_law) (q_Rm 3) (q_Pre G σ [.ref a0, .int i1, .int i2, .int i3, .int i4, .int i5]) (q_Qi G [24, 25] σ (fun r σ1 => q_V (-2147483648) 2147483647 r)) 0 0 (q_N G) := by
  refine q_ofW (ts := [24, 25]) (by decide) (Nat.le_of_ble_eq_true rfl) ?_
  intro p e s m args below meth c hE hr hlocks hW ls hl
  have hE : q_E G p s m args c cX11_move 9 RX11 := hE
  have hx := hE.1.1
  have hb := hE.1.2.1
  have hl : lv_has ls 9 [(0, .ref a0), (1, .int i1), (2, .int i2), (3, .int i3), (4, .int i4), (5, .int i5)] := hl
  have lp87a : ∀ (n87a : Nat) (ks5 : q_S) (H : Heap) (locs : List Loc) (kv1 : q_V 0 16 i4) (kv2 : q_V 0 16 i5) (kb3 : Nat) (hkb3 : q_T G kb3 = 23) (kx4 : Int32) (vkx4 : q_V 0 16 kx4) (hW : q_Wd G [24, 25] σ s.heap ks5 H locs) (ls : Array Slot) (hl : lv_has ls 9 [(0, .ref a0), (4, .int i4), (5, .int i5), (7, .ref kb3), (8, .int kx4)]), (16 - kx4.toInt).toNat < n87a → W p l e (q_Rm 3) s m args below meth c H locs 0 0 (MQ below (q_Qi G [24, 25] σ (fun r σ1 => q_V (-2147483648) 2147483647 r)) args s 0 0 (q_N G)) (F0 m 87 ls []) := by
    intro n87a
    induction n87a with
    | zero => intro _ _ _ _ _ _ _ _ _ _ _ _; exact fun h => absurd h (Nat.not_lt_zero _)
    | succ n87a ih87a =>
      intro ks5 H locs kv1 kv2 kb3 hkb3 kx4 vkx4 hW ls hl hm87a
      refine lv_iload hx hb dX11_move_87 (lv_at hl 4 rfl) ?_
      refine lv_iload hx hb dX11_move_89 (lv_at hl 2 rfl) ?_
      refine lv_icmp_ge (tgt := 151) hx hb dX11_move_91 (by decide) (fun kc6 => ?_) (fun kc6 => ?_)
      · refine lv_iload hx hb dX11_move_151 (lv_at hl 2 rfl) ?_
        exact q_reti hE hr hlocks hW ((kv2.w (by decide) (by decide))) dX11_move_153
      · have kv7 : q_V 0 15 kx4 := (q_lt1 vkx4 kv2 (Int32.not_le.mp kc6)).w (by decide) (by decide)
        have kv8 : q_V 1 16 i5 := (q_lt2 vkx4 kv2 (Int32.not_le.mp kc6)).w (by decide) (by decide)
        refine lv_aload hx hb dX11_move_94 (lv_at hl 3 rfl) ?_
        refine lv_aload_n hx hb dX11_move_96 rfl (lv_at hl 0 rfl) ?_
        refine q_getr hE hW h0 rfl q_k11 19 (by decide) rfl (hE.l wl_59) dX11_move_97 (fun kb9 ekb9 hkb9a hkb9b => ?_)
        have hkb9 : q_T G kb9 = 23 := q_tag hkb9a hkb9b
        refine q_getr hE hW hkb9 rfl q_k5 3 (by decide) rfl (hE.n 39 rfl) dX11_move_100 (fun kb10 ekb10 hkb10a hkb10b => ?_)
        have hkb10 : q_T G kb10 = 24 := q_tag hkb10a hkb10b
        refine lv_iload hx hb dX11_move_103 (lv_at hl 4 rfl) ?_
        refine q_iald hE hW hkb10 rfl (q_in kv7 (by decide) (by decide)) dX11_move_105 (fun kx11 ekx11 gkx11 => ?_)
        refine q_goi hW (q_runV (As := [.int kx11]) (rest := []) hE hW (c_X5_mayHold l G ks5 kb3 hkb3 kx11) kw_X11_284 (q_recv hE hW hkb3 rfl q_k5) rfl hl.1 rfl (Nat.le_of_ble_eq_true rfl) dX11_move_106 ⟨by decide, by decide⟩ ⟨by decide, by decide⟩) (by decide) (fun kx15 ks13 H locs kp12 kf14 hW => ?_)
        refine lv_if_ne (tgt := 115) hx hb dX11_move_109 (by decide) (fun kc16 => ?_) (fun kc16 => ?_)
        · have kv17 : q_V 1 1 kx15 := q_ne1 kp12 (q_c (k := 0) (x := 0) (by decide)) kc16 (by decide)
          refine lv_aload hx hb dX11_move_115 (lv_at hl 3 rfl) ?_
          refine lv_iload hx hb dX11_move_117 (lv_at hl 1 rfl) ?_
          refine lv_iload hx hb dX11_move_119 (lv_at hl 4 rfl) ?_
          refine lv_iadd hx hb dX11_move_121 ?_
          refine lv_topi (fun kx18 ekx18 => ?_)
          have vkx18 : q_V 0 31 kx18 := by rw [ekx18]; exact (q_add kv1 kv7 (by decide) (by decide)).w (by decide) (by decide)
          refine lv_aload_n hx hb dX11_move_122 rfl (lv_at hl 0 rfl) ?_
          refine q_getr hE hW h0 rfl q_k11 19 (by decide) rfl (hE.l wl_59) dX11_move_123 (fun kb19 ekb19 hkb19a hkb19b => ?_)
          obtain rfl : kb9 = kb19 := ((kf14.R _ h0 (by decide)).trans ekb9).symm.trans ekb19
          refine q_getr hE hW hkb9 rfl q_k5 3 (by decide) rfl (hE.n 39 rfl) dX11_move_126 (fun kb20 ekb20 hkb20a hkb20b => ?_)
          obtain rfl : kb10 = kb20 := ((kf14.R _ hkb9 (by decide)).trans ekb10).symm.trans ekb20
          refine lv_iload hx hb dX11_move_129 (lv_at hl 4 rfl) ?_
          refine q_iald hE hW hkb10 rfl (q_in kv7 (by decide) (by decide)) dX11_move_131 (fun kx21 ekx21 gkx21 => ?_)
          obtain rfl : kx11 = kx21 := ((kf14.A _ hkb10 (by decide)).trans ekx11).symm.trans ekx21
          refine lv_aload_n hx hb dX11_move_132 rfl (lv_at hl 0 rfl) ?_
          refine q_getr hE hW h0 rfl q_k11 19 (by decide) rfl (hE.l wl_59) dX11_move_133 (fun kb22 ekb22 hkb22a hkb22b => ?_)
          obtain rfl : kb9 = kb22 := ((kf14.R _ h0 (by decide)).trans ekb9).symm.trans ekb22
          refine q_getr hE hW hkb9 rfl q_k5 4 (by decide) rfl (hE.n 40 rfl) dX11_move_136 (fun kb23 ekb23 hkb23a hkb23b => ?_)
          have hkb23 : q_T G kb23 = 25 := q_tag hkb23a hkb23b
          refine lv_iload hx hb dX11_move_139 (lv_at hl 4 rfl) ?_
          refine q_iald hE hW hkb23 rfl (q_in kv7 (by decide) (by decide)) dX11_move_141 (fun kx24 ekx24 gkx24 => ?_)
          refine q_gov hW (q_runV (As := [.int kx18, .int kx11, .int kx24]) (rest := []) hE hW (c_X5_put l G ks13 kb3 hkb3 kx18 kx11 kx24) kw_X11_287 (q_recv hE hW hkb3 rfl q_k5) rfl hl.1 rfl (Nat.le_of_ble_eq_true rfl) dX11_move_142 ⟨by decide, by decide⟩ ⟨by decide, by decide⟩) (by decide) (fun ks26 H locs kp25 kf27 hW => ?_)
          obtain ⟨kx28, ekx28⟩ : ∃ y : Int32, y = kx4 + 1 := ⟨_, rfl⟩
          have vkx28 : q_V 1 16 kx28 := by rw [ekx28]; exact (q_add kv7 (q_c (k := 1) (x := 1) (by decide)) (by decide) (by decide)).w (by decide) (by decide)
          have ikx28 : kx28.toInt = kx4.toInt + 1 := q_incT ekx28 kv7 (by decide) (by decide) (by decide)
          refine lv_iinc (v := kx28) (lv' := [(8, .int kx28), (0, .ref a0), (4, .int i4), (5, .int i5), (7, .ref kb3)]) hx hb dX11_move_145 hl (k := 4) rfl (by rw [ekx28]; rfl) (by decide) rfl (fun ls hl => ?_)
          refine lv_goto (tgt := 87) hx hb dX11_move_148 (by decide) ?_
          exact ih87a _ _ _ kv1 (kv8.w (by decide) (by decide)) kb3 hkb3 kx28 (vkx28.w (by decide) (by decide)) hW ls (lv_sub hl [1, 2, 3, 4, 0] rfl) (Nat.lt_of_lt_of_le (q_up (ikx28) (show q_V 1 16 kx28 from vkx28).2) (Nat.le_of_lt_succ hm87a))
        · have kv29 : q_V 0 0 kx15 := q_eq1 kp12 (q_c (k := 0) (x := 0) (by decide)) kc16 (by decide) (by decide)
          refine lv_bipush (v := (-13)) hx hb dX11_move_112 (by decide) ?_
          exact q_reti hE hr hlocks hW (((q_c (k := (-13)) (x := (-13)) (by decide)).w (by decide) (by decide))) dX11_move_114
  refine lv_aload_n hx hb dX11_move_0 rfl (lv_at hl 0 rfl) ?_
  refine lv_iload_n hx hb dX11_move_1 rfl (lv_at hl 1 rfl) ?_
  refine q_goq hW (q_runV (As := [.int i1]) (rest := []) hE hW (c_X11_lineAt l G σ a0 h0 i1) kw_X11_272 (q_recv hE hW h0 rfl q_k11) rfl hl.1 rfl (Nat.le_of_ble_eq_true rfl) dX11_move_2 ⟨by decide, by decide⟩ ⟨by decide, by decide⟩) (by decide) (fun ks31 H locs kp30 kf32 hW => ?_) (fun kb33 ks31 H locs kp30 kf32 hW => ?_)
  · refine lv_astoreN (lv' := [(6, .null), (0, .ref a0), (1, .int i1), (2, .int i2), (3, .int i3), (4, .int i4), (5, .int i5)]) hx hb dX11_move_5 hl (by decide) rfl (fun ls hl => ?_)
    refine lv_aload_n hx hb dX11_move_7 rfl (lv_at hl 1 rfl) ?_
    refine lv_iload_n hx hb dX11_move_8 rfl (lv_at hl 4 rfl) ?_
    refine q_goq hW (q_runV (As := [.int i3]) (rest := []) hE hW (c_X11_lineAt l G ks31 a0 h0 i3) kw_X11_272 (q_recv hE hW h0 rfl q_k11) rfl hl.1 rfl (Nat.le_of_ble_eq_true rfl) dX11_move_9 ⟨by decide, by decide⟩ ⟨by decide, by decide⟩) (by decide) (fun ks35 H locs kp34 kf36 hW => ?_) (fun kb37 ks35 H locs kp34 kf36 hW => ?_)
    · refine lv_astoreN (lv' := [(7, .null), (6, .null), (0, .ref a0), (1, .int i1), (2, .int i2), (3, .int i3), (4, .int i4), (5, .int i5)]) hx hb dX11_move_12 hl (by decide) rfl (fun ls hl => ?_)
      refine lv_aloadN hx hb dX11_move_14 (lv_at hl 1 rfl) ?_
      refine lv_ifnullN hx hb dX11_move_16 (tgt := 24) (by decide) ?_
      refine lv_bipush (v := (-2)) hx hb dX11_move_24 (by decide) ?_
      exact q_reti hE hr hlocks hW (((q_c (k := (-2)) (x := (-2)) (by decide)).w (by decide) (by decide))) dX11_move_26
    · have hkb37 : q_T G kb37 = 23 := kp34 kb37 rfl
      refine lv_astore (lv' := [(7, .ref kb37), (6, .null), (0, .ref a0), (1, .int i1), (2, .int i2), (3, .int i3), (4, .int i4), (5, .int i5)]) hx hb dX11_move_12 hl (by decide) rfl (fun ls hl => ?_)
      refine lv_aloadN hx hb dX11_move_14 (lv_at hl 1 rfl) ?_
      refine lv_ifnullN hx hb dX11_move_16 (tgt := 24) (by decide) ?_
      refine lv_bipush (v := (-2)) hx hb dX11_move_24 (by decide) ?_
      exact q_reti hE hr hlocks hW (((q_c (k := (-2)) (x := (-2)) (by decide)).w (by decide) (by decide))) dX11_move_26
  · have hkb33 : q_T G kb33 = 23 := kp30 kb33 rfl
    refine lv_astore (lv' := [(6, .ref kb33), (0, .ref a0), (1, .int i1), (2, .int i2), (3, .int i3), (4, .int i4), (5, .int i5)]) hx hb dX11_move_5 hl (by decide) rfl (fun ls hl => ?_)
    refine lv_aload_n hx hb dX11_move_7 rfl (lv_at hl 1 rfl) ?_
    refine lv_iload_n hx hb dX11_move_8 rfl (lv_at hl 4 rfl) ?_
    refine q_goq hW (q_runV (As := [.int i3]) (rest := []) hE hW (c_X11_lineAt l G ks31 a0 h0 i3) kw_X11_272 (q_recv hE hW h0 rfl q_k11) rfl hl.1 rfl (Nat.le_of_ble_eq_true rfl) dX11_move_9 ⟨by decide, by decide⟩ ⟨by decide, by decide⟩) (by decide) (fun ks39 H locs kp38 kf40 hW => ?_) (fun kb41 ks39 H locs kp38 kf40 hW => ?_)
    · refine lv_astoreN (lv' := [(7, .null), (6, .ref kb33), (0, .ref a0), (1, .int i1), (2, .int i2), (3, .int i3), (4, .int i4), (5, .int i5)]) hx hb dX11_move_12 hl (by decide) rfl (fun ls hl => ?_)
      refine lv_aload hx hb dX11_move_14 (lv_at hl 1 rfl) ?_
      refine lv_ifnull hx hb dX11_move_16 ?_
      refine lv_aloadN hx hb dX11_move_19 (lv_at hl 0 rfl) ?_
      refine lv_ifnonnullN hx hb dX11_move_21 ?_
      refine lv_bipush (v := (-2)) hx hb dX11_move_24 (by decide) ?_
      exact q_reti hE hr hlocks hW (((q_c (k := (-2)) (x := (-2)) (by decide)).w (by decide) (by decide))) dX11_move_26
    · have hkb41 : q_T G kb41 = 23 := kp38 kb41 rfl
      refine lv_astore (lv' := [(7, .ref kb41), (6, .ref kb33), (0, .ref a0), (1, .int i1), (2, .int i2), (3, .int i3), (4, .int i4), (5, .int i5)]) hx hb dX11_move_12 hl (by decide) rfl (fun ls hl => ?_)
      refine lv_aload hx hb dX11_move_14 (lv_at hl 1 rfl) ?_
      refine lv_ifnull hx hb dX11_move_16 ?_
      refine lv_aload hx hb dX11_move_19 (lv_at hl 0 rfl) ?_
      refine lv_ifnonnull hx hb dX11_move_21 (tgt := 27) (by decide) ?_
      refine lv_aload hx hb dX11_move_27 (lv_at hl 1 rfl) ?_
      refine q_geti hE hW hkb33 rfl q_k5 0 (by decide) rfl (hE.n 37 rfl) dX11_move_29 (fun kx42 ekx42 vkx42 => ?_)
      refine lv_if_eq (tgt := 43) hx hb dX11_move_32 (by decide) (fun kc43 => ?_) (fun kc43 => ?_)
      · have kv44 : q_V 0 0 kx42 := q_eq1 vkx42 (q_c (k := 0) (x := 0) (by decide)) kc43 (by decide) (by decide)
        refine lv_bipush (v := (-11)) hx hb dX11_move_43 (by decide) ?_
        exact q_reti hE hr hlocks hW (((q_c (k := (-11)) (x := (-11)) (by decide)).w (by decide) (by decide))) dX11_move_45
      · have kv45 : q_V 1 1 kx42 := q_ne1 vkx42 (q_c (k := 0) (x := 0) (by decide)) kc43 (by decide)
        refine lv_aload hx hb dX11_move_35 (lv_at hl 0 rfl) ?_
        refine q_geti hE hW hkb41 rfl q_k5 0 (by decide) rfl (hE.n 37 rfl) dX11_move_37 (fun kx46 ekx46 vkx46 => ?_)
        refine lv_if_ne (tgt := 46) hx hb dX11_move_40 (by decide) (fun kc47 => ?_) (fun kc47 => ?_)
        · have kv48 : q_V 1 1 kx46 := q_ne1 vkx46 (q_c (k := 0) (x := 0) (by decide)) kc47 (by decide)
          refine lv_aload hx hb dX11_move_46 (lv_at hl 1 rfl) ?_
          refine lv_iload_n hx hb dX11_move_48 rfl (lv_at hl 4 rfl) ?_
          refine lv_iload hx hb dX11_move_49 (lv_at hl 7 rfl) ?_
          refine q_goi hW (q_runV (As := [.int i2, .int i5]) (rest := []) hE hW (c_X5_hasPegs l G ks39 kb33 hkb33 i2 i5) kw_X11_280 (q_recv hE hW hkb33 rfl q_k5) rfl hl.1 rfl (Nat.le_of_ble_eq_true rfl) dX11_move_51 ⟨by decide, by decide⟩ ⟨by decide, by decide⟩) (by decide) (fun kx52 ks50 H locs kp49 kf51 hW => ?_)
          refine lv_if_eq (tgt := 69) hx hb dX11_move_54 (by decide) (fun kc53 => ?_) (fun kc53 => ?_)
          · have kv54 : q_V 0 0 kx52 := q_eq1 kp49.1 (q_c (k := 0) (x := 0) (by decide)) kc53 (by decide) (by decide)
            refine lv_bipush (v := (-12)) hx hb dX11_move_69 (by decide) ?_
            exact q_reti hE hr hlocks hW (((q_c (k := (-12)) (x := (-12)) (by decide)).w (by decide) (by decide))) dX11_move_71
          · have kh55 := kp49.2 kc53
            have kv56 : q_V 0 16 i2 := q_both (q_all i2) (q_hp1 kh55) (by decide) (by decide)
            have kv57 : q_V 0 16 i5 := q_both (q_all i5) (q_hp2 kh55) (by decide) (by decide)
            have kv58 : q_V 1 1 kx52 := q_ne1 kp49.1 (q_c (k := 0) (x := 0) (by decide)) kc53 (by decide)
            refine lv_aload hx hb dX11_move_57 (lv_at hl 0 rfl) ?_
            refine lv_iload hx hb dX11_move_59 (lv_at hl 6 rfl) ?_
            refine lv_iload hx hb dX11_move_61 (lv_at hl 7 rfl) ?_
            refine q_goi hW (q_runV (As := [.int i4, .int i5]) (rest := []) hE hW (c_X5_hasPegs l G ks50 kb41 hkb41 i4 i5) kw_X11_280 (q_recv hE hW hkb41 rfl q_k5) rfl hl.1 rfl (Nat.le_of_ble_eq_true rfl) dX11_move_63 ⟨by decide, by decide⟩ ⟨by decide, by decide⟩) (by decide) (fun kx62 ks60 H locs kp59 kf61 hW => ?_)
            refine lv_if_ne (tgt := 72) hx hb dX11_move_66 (by decide) (fun kc63 => ?_) (fun kc63 => ?_)
            · have kh64 := kp59.2 kc63
              have kv65 : q_V 0 16 i4 := q_both (q_all i4) (q_hp1 kh64) (by decide) (by decide)
              have kv66 : q_V 0 16 i5 := q_both kv57 (q_hp2 kh64) (by decide) (by decide)
              have kv67 : q_V 1 1 kx62 := q_ne1 kp59.1 (q_c (k := 0) (x := 0) (by decide)) kc63 (by decide)
              refine lv_aload_n hx hb dX11_move_72 rfl (lv_at hl 2 rfl) ?_
              refine q_getr hE hW h0 rfl q_k11 19 (by decide) rfl (hE.l wl_59) dX11_move_73 (fun kb68 ekb68 hkb68a hkb68b => ?_)
              have hkb68 : q_T G kb68 = 23 := q_tag hkb68a hkb68b
              refine lv_aload hx hb dX11_move_76 (lv_at hl 1 rfl) ?_
              refine lv_iload_n hx hb dX11_move_78 rfl (lv_at hl 4 rfl) ?_
              refine lv_iload hx hb dX11_move_79 (lv_at hl 7 rfl) ?_
              refine q_gov hW (q_runV (As := [.ref kb33, .int i2, .int i5]) (rest := []) hE hW (c_X5_take l G ks60 kb68 hkb68 kb33 hkb33 i2 i5) kw_X11_297 (q_recv hE hW hkb68 rfl q_k5) rfl hl.1 rfl (Nat.le_of_ble_eq_true rfl) dX11_move_81 ⟨by decide, by decide⟩ ⟨by decide, by decide⟩) (by decide) (fun ks70 H locs kp69 kf71 hW => ?_)
              refine lv_iconst (v := 0) hx hb dX11_move_84 (by decide) ?_
              refine lv_istore (lv' := [(8, .int 0), (7, .ref kb41), (6, .ref kb33), (0, .ref a0), (1, .int i1), (2, .int i2), (3, .int i3), (4, .int i4), (5, .int i5)]) hx hb dX11_move_85 hl (by decide) rfl (fun ls hl => ?_)
              exact lp87a _ _ _ _ kv65 kv66 kb41 hkb41 0 ((q_c (k := 0) (x := 0) (by decide)).w (by decide) (by decide)) hW ls (lv_sub hl [3, 7, 8, 1, 0] rfl) (Nat.lt_succ_self _)
            · have kv72 : q_V 0 0 kx62 := q_eq1 kp59.1 (q_c (k := 0) (x := 0) (by decide)) kc63 (by decide) (by decide)
              refine lv_bipush (v := (-12)) hx hb dX11_move_69 (by decide) ?_
              exact q_reti hE hr hlocks hW (((q_c (k := (-12)) (x := (-12)) (by decide)).w (by decide) (by decide))) dX11_move_71
        · have kv73 : q_V 0 0 kx46 := q_eq1 vkx46 (q_c (k := 0) (x := 0) (by decide)) kc47 (by decide) (by decide)
          refine lv_bipush (v := (-11)) hx hb dX11_move_43 (by decide) ?_
          exact q_reti hE hr hlocks hW (((q_c (k := (-11)) (x := (-11)) (by decide)).w (by decide) (by decide))) dX11_move_45
set_option maxHeartbeats 4000000 in
set_option maxRecDepth 100000 in
theorem c_X11_drop (l : Launch) (G : q_G) (σ : q_S) (a0 : Nat) (h0 : q_T G a0 = 26) (i1 : Int32)  : Met l yX11_drop (Cond.code yX11_drop cX11_drop 3 (some .int) :: wsL_law) (q_Rm 3) (q_Pre G σ [.ref a0, .int i1]) (q_Qi G [23] σ (fun r σ1 => q_V (-2147483648) 2147483647 r)) 0 0 (q_N G) := by
  refine q_ofW (ts := [23]) (by decide) (Nat.le_of_ble_eq_true rfl) ?_
  intro p e s m args below meth c hE hr hlocks hW ls hl
  have hE : q_E G p s m args c cX11_drop 3 RX11 := hE
  have hx := hE.1.1
  have hb := hE.1.2.1
  have hl : lv_has ls 3 [(0, .ref a0), (1, .int i1)] := hl
  refine lv_aload_n hx hb dX11_drop_0 rfl (lv_at hl 0 rfl) ?_
  refine lv_iload_n hx hb dX11_drop_1 rfl (lv_at hl 1 rfl) ?_
  refine q_goq hW (q_runV (As := [.int i1]) (rest := []) hE hW (c_X11_lineAt l G σ a0 h0 i1) kw_X11_272 (q_recv hE hW h0 rfl q_k11) rfl hl.1 rfl (Nat.le_of_ble_eq_true rfl) dX11_drop_2 ⟨by decide, by decide⟩ ⟨by decide, by decide⟩) (by decide) (fun ks2 H locs kp1 kf3 hW => ?_) (fun kb4 ks2 H locs kp1 kf3 hW => ?_)
  · refine lv_astore_nN (lv' := [(2, .null), (0, .ref a0), (1, .int i1)]) hx hb dX11_drop_5 rfl hl (by decide) rfl (fun ls hl => ?_)
    refine lv_aload_nN hx hb dX11_drop_6 rfl (lv_at hl 0 rfl) ?_
    refine lv_ifnonnullN hx hb dX11_drop_7 ?_
    refine lv_bipush (v := (-2)) hx hb dX11_drop_10 (by decide) ?_
    exact q_reti hE hr hlocks hW (((q_c (k := (-2)) (x := (-2)) (by decide)).w (by decide) (by decide))) dX11_drop_12
  · have hkb4 : q_T G kb4 = 23 := kp1 kb4 rfl
    refine lv_astore_n (lv' := [(2, .ref kb4), (0, .ref a0), (1, .int i1)]) hx hb dX11_drop_5 rfl hl (by decide) rfl (fun ls hl => ?_)
    refine lv_aload_n hx hb dX11_drop_6 rfl (lv_at hl 0 rfl) ?_
    refine lv_ifnonnull hx hb dX11_drop_7 (tgt := 13) (by decide) ?_
    refine lv_aload_n hx hb dX11_drop_13 rfl (lv_at hl 0 rfl) ?_
    refine q_geti hE hW hkb4 rfl q_k5 0 (by decide) rfl (hE.n 37 rfl) dX11_drop_14 (fun kx5 ekx5 vkx5 => ?_)
    refine lv_if_ne (tgt := 23) hx hb dX11_drop_17 (by decide) (fun kc6 => ?_) (fun kc6 => ?_)
    · have kv7 : q_V 1 1 kx5 := q_ne1 vkx5 (q_c (k := 0) (x := 0) (by decide)) kc6 (by decide)
      refine lv_aload_n hx hb dX11_drop_23 rfl (lv_at hl 0 rfl) ?_
      refine lv_iconst (v := 0) hx hb dX11_drop_24 (by decide) ?_
      refine q_puti hE hW hkb4 rfl q_k5 tyX5 tyX5_ok 0 (by decide) rfl (hE.n 37 rfl) rfl rfl rfl ((q_c (k := 0) (x := 0) (by decide)).w (by decide) (by decide)) (by decide) dX11_drop_25 (fun H locs ks8 kp9 hW => ?_)
      refine lv_aload_n hx hb dX11_drop_28 rfl (lv_at hl 0 rfl) ?_
      refine q_goi hW (q_runV (As := []) (rest := []) hE hW (c_X5_heldPegs l G ks8 kb4 hkb4) kw_X11_301 (q_recv hE hW hkb4 rfl q_k5) rfl hl.1 rfl (Nat.le_of_ble_eq_true rfl) dX11_drop_29 ⟨by decide, by decide⟩ ⟨by decide, by decide⟩) (by decide) (fun kx13 ks11 H locs kp10 kf12 hW => ?_)
      exact q_reti hE hr hlocks hW ((q_all kx13)) dX11_drop_32
    · have kv14 : q_V 0 0 kx5 := q_eq1 vkx5 (q_c (k := 0) (x := 0) (by decide)) kc6 (by decide) (by decide)
      refine lv_bipush (v := (-11)) hx hb dX11_drop_20 (by decide) ?_
      exact q_reti hE hr hlocks hW (((q_c (k := (-11)) (x := (-11)) (by decide)).w (by decide) (by decide))) dX11_drop_22
set_option maxHeartbeats 4000000 in
set_option maxRecDepth 100000 in
theorem c_X11_sum (l : Launch) (G : q_G) (σ : q_S) (a0 : Nat) (h0 : q_T G a0 = 26) (i1 : Int32)  : Met l yX11_sum (Cond.code yX11_sum cX11_sum 6 (some .int) :: wsL_law) (q_Rm 3) (q_Pre G σ [.ref a0, .int i1]) (q_Qi G [] σ (fun r σ1 => q_V (-2147483648) 2147483647 r)) 0 0 (q_N G) := by
  refine q_ofW (ts := []) (by decide) (Nat.le_of_ble_eq_true rfl) ?_
  intro p e s m args below meth c hE hr hlocks hW ls hl
  have hE : q_E G p s m args c cX11_sum 6 RX11 := hE
  have hx := hE.1.1
  have hb := hE.1.2.1
  have hl : lv_has ls 6 [(0, .ref a0), (1, .int i1)] := hl
  have lp28a : ∀ (n28a : Nat) (ks4 : q_S) (H : Heap) (locs : List Loc) (kb1 : Nat) (hkb1 : q_T G kb1 = 23) (kx2 : Int32) (kx3 : Int32) (vkx3 : q_V 0 16 kx3) (hW : q_Wd G [] σ s.heap ks4 H locs) (ls : Array Slot) (hl : lv_has ls 6 [(0, .ref a0), (2, .ref kb1), (3, .int kx2), (4, .int kx3)]), (16 - kx3.toInt).toNat < n28a → W p l e (q_Rm 3) s m args below meth c H locs 0 0 (MQ below (q_Qi G [] σ (fun r σ1 => q_V (-2147483648) 2147483647 r)) args s 0 0 (q_N G)) (F0 m 28 ls []) := by
    intro n28a
    induction n28a with
    | zero => intro _ _ _ _ _ _ _ _ _ _ _; exact fun h => absurd h (Nat.not_lt_zero _)
    | succ n28a ih28a =>
      intro ks4 H locs kb1 hkb1 kx2 kx3 vkx3 hW ls hl hm28a
      have jn112a : ∀ (ks7 : q_S) (H : Heap) (locs : List Loc) (kx5 : Int32) (kv6 : q_V 0 15 kx3) (hW : q_Wd G [] σ s.heap ks7 H locs) (ls : Array Slot) (hl : lv_has ls 6 [(0, .ref a0), (2, .ref kb1), (3, .int kx5), (4, .int kx3)]), W p l e (q_Rm 3) s m args below meth c H locs 0 0 (MQ below (q_Qi G [] σ (fun r σ1 => q_V (-2147483648) 2147483647 r)) args s 0 0 (q_N G)) (F0 m 112 ls []) := by
        intro ks7 H locs kx5 kv6 hW ls hl
        obtain ⟨kx8, ekx8⟩ : ∃ y : Int32, y = kx3 + 1 := ⟨_, rfl⟩
        have vkx8 : q_V 1 16 kx8 := by rw [ekx8]; exact (q_add kv6 (q_c (k := 1) (x := 1) (by decide)) (by decide) (by decide)).w (by decide) (by decide)
        have ikx8 : kx8.toInt = kx3.toInt + 1 := q_incT ekx8 kv6 (by decide) (by decide) (by decide)
        refine lv_iinc (v := kx8) (lv' := [(4, .int kx8), (0, .ref a0), (2, .ref kb1), (3, .int kx5)]) hx hb dX11_sum_112 hl (k := 3) rfl (by rw [ekx8]; rfl) (by decide) rfl (fun ls hl => ?_)
        refine lv_goto (tgt := 28) hx hb dX11_sum_115 (by decide) ?_
        exact ih28a _ _ _ kb1 hkb1 kx5 kx8 (vkx8.w (by decide) (by decide)) hW ls (lv_sub hl [1, 2, 3, 0] rfl) (Nat.lt_of_lt_of_le (q_up (ikx8) (show q_V 1 16 kx8 from vkx8).2) (Nat.le_of_lt_succ hm28a))
      have jn110a : ∀ (ks12 : q_S) (H : Heap) (locs : List Loc) (kv9 : q_V 0 15 kx3) (kx10 : Int32) (kx11 : Int32) (hW : q_Wd G [] σ s.heap ks12 H locs) (ls : Array Slot) (hl : lv_has ls 6 [(0, .ref a0), (2, .ref kb1), (4, .int kx3)]), W p l e (q_Rm 3) s m args below meth c H locs 0 0 (MQ below (q_Qi G [] σ (fun r σ1 => q_V (-2147483648) 2147483647 r)) args s 0 0 (q_N G)) (F0 m 110 ls [.int kx11, .int kx10]) := by
        intro ks12 H locs kv9 kx10 kx11 hW ls hl
        refine lv_iadd hx hb dX11_sum_110 ?_
        refine lv_topi (fun kx13 ekx13 => ?_)
        refine lv_istore_n (lv' := [(3, .int kx13), (0, .ref a0), (2, .ref kb1), (4, .int kx3)]) hx hb dX11_sum_111 rfl hl (by decide) rfl (fun ls hl => ?_)
        exact jn112a _ _ _ kx13 kv9 hW ls (lv_sub hl [1, 2, 0, 3] rfl)
      refine lv_iload hx hb dX11_sum_28 (lv_at hl 3 rfl) ?_
      refine lv_aload_n hx hb dX11_sum_30 rfl (lv_at hl 1 rfl) ?_
      refine q_geti hE hW hkb1 rfl q_k5 2 (by decide) rfl (hE.n 38 rfl) dX11_sum_31 (fun kx14 ekx14 vkx14 => ?_)
      refine lv_icmp_ge (tgt := 118) hx hb dX11_sum_34 (by decide) (fun kc15 => ?_) (fun kc15 => ?_)
      · refine lv_iload_n hx hb dX11_sum_118 rfl (lv_at hl 2 rfl) ?_
        refine lv_ldcw (v := 100000) hx hb hE.1.2.2.2.1 (hE.w wl_1048) dX11_sum_119 ?_
        refine lv_iadd hx hb dX11_sum_122 ?_
        refine lv_topi (fun kx16 ekx16 => ?_)
        exact q_reti hE hr hlocks hW ((q_all kx16)) dX11_sum_123
      · have kv17 : q_V 0 15 kx3 := (q_lt1 vkx3 vkx14 (Int32.not_le.mp kc15)).w (by decide) (by decide)
        have kv18 : q_V 1 16 kx14 := (q_lt2 vkx3 vkx14 (Int32.not_le.mp kc15)).w (by decide) (by decide)
        refine lv_iload hx hb dX11_sum_37 (lv_at hl 3 rfl) ?_
        refine lv_bipush (v := 16) hx hb dX11_sum_39 (by decide) ?_
        refine lv_icmp_ge (tgt := 118) hx hb dX11_sum_41 (by decide) (fun kc19 => ?_) (fun kc19 => ?_)
        · have kv20 : q_V 16 15 16 := (q_le1 (q_c (k := 16) (x := 16) (by decide)) kv17 kc19).w (by decide) (by decide)
          exact (kv20.no (by decide))
        · refine lv_aload_n hx hb dX11_sum_44 rfl (lv_at hl 1 rfl) ?_
          refine q_getr hE hW hkb1 rfl q_k5 3 (by decide) rfl (hE.n 39 rfl) dX11_sum_45 (fun kb21 ekb21 hkb21a hkb21b => ?_)
          have hkb21 : q_T G kb21 = 24 := q_tag hkb21a hkb21b
          refine lv_iload hx hb dX11_sum_48 (lv_at hl 3 rfl) ?_
          refine q_iald hE hW hkb21 rfl (q_in kv17 (by decide) (by decide)) dX11_sum_50 (fun kx22 ekx22 gkx22 => ?_)
          refine lv_iconst (v := 2) hx hb dX11_sum_51 (by decide) ?_
          refine lv_icmp_ne (tgt := 68) hx hb dX11_sum_52 (by decide) (fun kc23 => ?_) (fun kc23 => ?_)
          · refine lv_aload_n hx hb dX11_sum_68 rfl (lv_at hl 1 rfl) ?_
            refine q_getr hE hW hkb1 rfl q_k5 3 (by decide) rfl (hE.n 39 rfl) dX11_sum_69 (fun kb24 ekb24 hkb24a hkb24b => ?_)
            obtain rfl : kb21 = kb24 := ekb21.symm.trans ekb24
            refine lv_iload hx hb dX11_sum_72 (lv_at hl 3 rfl) ?_
            refine q_iald hE hW hkb21 rfl (q_in kv17 (by decide) (by decide)) dX11_sum_74 (fun kx25 ekx25 gkx25 => ?_)
            obtain rfl : kx22 = kx25 := ekx22.symm.trans ekx25
            refine lv_iconst (v := 1) hx hb dX11_sum_75 (by decide) ?_
            refine lv_icmp_ne (tgt := 112) hx hb dX11_sum_76 (by decide) (fun kc26 => ?_) (fun kc26 => ?_)
            · exact jn112a _ _ _ kx2 kv17 hW ls (lv_sub hl [0, 1, 2, 3] rfl)
            · have kv27 : q_V 1 1 kx22 := q_eq1 (q_all kx22) (q_c (k := 1) (x := 1) (by decide)) kc26 (by decide) (by decide)
              refine lv_aload_n hx hb dX11_sum_79 rfl (lv_at hl 0 rfl) ?_
              refine q_getr hE hW h0 rfl q_k11 5 (by decide) rfl (hE.l wl_35) dX11_sum_80 (fun kb28 ekb28 hkb28a hkb28b => ?_)
              have hkb28 : q_T G kb28 = 7 := q_tag hkb28a hkb28b
              refine lv_aload_n hx hb dX11_sum_83 rfl (lv_at hl 1 rfl) ?_
              refine q_getr hE hW hkb1 rfl q_k5 4 (by decide) rfl (hE.n 40 rfl) dX11_sum_84 (fun kb29 ekb29 hkb29a hkb29b => ?_)
              have hkb29 : q_T G kb29 = 25 := q_tag hkb29a hkb29b
              refine lv_iload hx hb dX11_sum_87 (lv_at hl 3 rfl) ?_
              refine q_iald hE hW hkb29 rfl (q_in kv17 (by decide) (by decide)) dX11_sum_89 (fun kx30 ekx30 gkx30 => ?_)
              refine q_goq hW (q_runV (As := [.int kx30]) (rest := []) hE hW (c_X2_cloudAt l G ks4 kb28 hkb28 kx30) kw_X11_137 (q_recv hE hW hkb28 rfl q_k2) rfl hl.1 rfl (Nat.le_of_ble_eq_true rfl) dX11_sum_90 ⟨by decide, by decide⟩ ⟨by decide, by decide⟩) (by decide) (fun ks32 H locs kp31 kf33 hW => ?_) (fun kb34 ks32 H locs kp31 kf33 hW => ?_)
              · refine lv_astoreN (lv' := [(5, .null), (0, .ref a0), (2, .ref kb1), (3, .int kx2), (4, .int kx3)]) hx hb dX11_sum_93 hl (by decide) rfl (fun ls hl => ?_)
                refine lv_iload_n hx hb dX11_sum_95 rfl (lv_at hl 3 rfl) ?_
                refine lv_aloadN hx hb dX11_sum_96 (lv_at hl 0 rfl) ?_
                refine lv_ifnonnullN hx hb dX11_sum_98 ?_
                refine lv_iconst (v := 0) hx hb dX11_sum_101 (by decide) ?_
                refine lv_goto (tgt := 110) hx hb dX11_sum_102 (by decide) ?_
                exact jn110a _ _ _ kv17 kx2 0 hW ls (lv_sub hl [1, 2, 4] rfl)
              · have hkb34 : q_T G kb34 = 5 := kp31 kb34 rfl
                refine lv_astore (lv' := [(5, .ref kb34), (0, .ref a0), (2, .ref kb1), (3, .int kx2), (4, .int kx3)]) hx hb dX11_sum_93 hl (by decide) rfl (fun ls hl => ?_)
                refine lv_iload_n hx hb dX11_sum_95 rfl (lv_at hl 3 rfl) ?_
                refine lv_aload hx hb dX11_sum_96 (lv_at hl 0 rfl) ?_
                refine lv_ifnonnull hx hb dX11_sum_98 (tgt := 105) (by decide) ?_
                refine lv_aload hx hb dX11_sum_105 (lv_at hl 0 rfl) ?_
                refine q_goi hW (q_runV (As := []) (rest := [.int kx2]) hE hW (c_X1_allDeep l G ks32 kb34 hkb34) kw_X11_201 (q_recv hE hW hkb34 rfl q_k1) rfl hl.1 rfl (Nat.le_of_ble_eq_true rfl) dX11_sum_107 ⟨by decide, by decide⟩ ⟨by decide, by decide⟩) (by decide) (fun kx38 ks36 H locs kp35 kf37 hW => ?_)
                exact jn110a _ _ _ kv17 kx2 kx38 hW ls (lv_sub hl [1, 2, 4] rfl)
          · have kv39 : q_V 2 2 kx22 := q_eq1 (q_all kx22) (q_c (k := 2) (x := 2) (by decide)) kc23 (by decide) (by decide)
            refine lv_iload_n hx hb dX11_sum_55 rfl (lv_at hl 2 rfl) ?_
            refine lv_aload_n hx hb dX11_sum_56 rfl (lv_at hl 1 rfl) ?_
            refine q_getr hE hW hkb1 rfl q_k5 4 (by decide) rfl (hE.n 40 rfl) dX11_sum_57 (fun kb40 ekb40 hkb40a hkb40b => ?_)
            have hkb40 : q_T G kb40 = 25 := q_tag hkb40a hkb40b
            refine lv_iload hx hb dX11_sum_60 (lv_at hl 3 rfl) ?_
            refine q_iald hE hW hkb40 rfl (q_in kv17 (by decide) (by decide)) dX11_sum_62 (fun kx41 ekx41 gkx41 => ?_)
            refine lv_iadd hx hb dX11_sum_63 ?_
            refine lv_topi (fun kx42 ekx42 => ?_)
            refine lv_istore_n (lv' := [(3, .int kx42), (0, .ref a0), (2, .ref kb1), (4, .int kx3)]) hx hb dX11_sum_64 rfl hl (by decide) rfl (fun ls hl => ?_)
            refine lv_goto (tgt := 112) hx hb dX11_sum_65 (by decide) ?_
            exact jn112a _ _ _ kx42 kv17 hW ls (lv_sub hl [1, 2, 0, 3] rfl)
  refine lv_aload_n hx hb dX11_sum_0 rfl (lv_at hl 0 rfl) ?_
  refine lv_iload_n hx hb dX11_sum_1 rfl (lv_at hl 1 rfl) ?_
  refine q_goq hW (q_runV (As := [.int i1]) (rest := []) hE hW (c_X11_lineAt l G σ a0 h0 i1) kw_X11_272 (q_recv hE hW h0 rfl q_k11) rfl hl.1 rfl (Nat.le_of_ble_eq_true rfl) dX11_sum_2 ⟨by decide, by decide⟩ ⟨by decide, by decide⟩) (by decide) (fun ks44 H locs kp43 kf45 hW => ?_) (fun kb46 ks44 H locs kp43 kf45 hW => ?_)
  · refine lv_astore_nN (lv' := [(2, .null), (0, .ref a0), (1, .int i1)]) hx hb dX11_sum_5 rfl hl (by decide) rfl (fun ls hl => ?_)
    refine lv_aload_nN hx hb dX11_sum_6 rfl (lv_at hl 0 rfl) ?_
    refine lv_ifnonnullN hx hb dX11_sum_7 ?_
    refine lv_bipush (v := (-2)) hx hb dX11_sum_10 (by decide) ?_
    exact q_reti hE hr hlocks hW (((q_c (k := (-2)) (x := (-2)) (by decide)).w (by decide) (by decide))) dX11_sum_12
  · have hkb46 : q_T G kb46 = 23 := kp43 kb46 rfl
    refine lv_astore_n (lv' := [(2, .ref kb46), (0, .ref a0), (1, .int i1)]) hx hb dX11_sum_5 rfl hl (by decide) rfl (fun ls hl => ?_)
    refine lv_aload_n hx hb dX11_sum_6 rfl (lv_at hl 0 rfl) ?_
    refine lv_ifnonnull hx hb dX11_sum_7 (tgt := 13) (by decide) ?_
    refine lv_aload_n hx hb dX11_sum_13 rfl (lv_at hl 0 rfl) ?_
    refine q_geti hE hW hkb46 rfl q_k5 0 (by decide) rfl (hE.n 37 rfl) dX11_sum_14 (fun kx47 ekx47 vkx47 => ?_)
    refine lv_if_ne (tgt := 23) hx hb dX11_sum_17 (by decide) (fun kc48 => ?_) (fun kc48 => ?_)
    · have kv49 : q_V 1 1 kx47 := q_ne1 vkx47 (q_c (k := 0) (x := 0) (by decide)) kc48 (by decide)
      refine lv_iconst (v := 0) hx hb dX11_sum_23 (by decide) ?_
      refine lv_istore_n (lv' := [(3, .int 0), (2, .ref kb46), (0, .ref a0), (1, .int i1)]) hx hb dX11_sum_24 rfl hl (by decide) rfl (fun ls hl => ?_)
      refine lv_iconst (v := 0) hx hb dX11_sum_25 (by decide) ?_
      refine lv_istore (lv' := [(4, .int 0), (3, .int 0), (2, .ref kb46), (0, .ref a0), (1, .int i1)]) hx hb dX11_sum_26 hl (by decide) rfl (fun ls hl => ?_)
      exact lp28a _ _ _ _ kb46 hkb46 0 0 ((q_c (k := 0) (x := 0) (by decide)).w (by decide) (by decide)) hW ls (lv_sub hl [3, 2, 1, 0] rfl) (Nat.lt_succ_self _)
    · have kv50 : q_V 0 0 kx47 := q_eq1 vkx47 (q_c (k := 0) (x := 0) (by decide)) kc48 (by decide) (by decide)
      refine lv_bipush (v := (-11)) hx hb dX11_sum_20 (by decide) ?_
      exact q_reti hE hr hlocks hW (((q_c (k := (-11)) (x := (-11)) (by decide)).w (by decide) (by decide))) dX11_sum_22
set_option maxHeartbeats 4000000 in
set_option maxRecDepth 100000 in
theorem c_X11_count (l : Launch) (G : q_G) (σ : q_S) (a0 : Nat) (h0 : q_T G a0 = 26) (i1 : Int32)  : Met l yX11_count (Cond.code yX11_count cX11_count 2 (some .int) :: wsL_law) (q_Rm 3) (q_Pre G σ [.ref a0, .int i1]) (q_Qi G [] σ (fun r σ1 => q_V (-2147483648) 2147483647 r)) 0 0 (q_N G) := by
  refine q_ofW (ts := []) (by decide) (Nat.le_of_ble_eq_true rfl) ?_
  intro p e s m args below meth c hE hr hlocks hW ls hl
  have hE : q_E G p s m args c cX11_count 2 RX11 := hE
  have hx := hE.1.1
  have hb := hE.1.2.1
  have hl : lv_has ls 2 [(0, .ref a0), (1, .int i1)] := hl
  refine lv_iload_n hx hb dX11_count_0 rfl (lv_at hl 1 rfl) ?_
  rcases q_sw i1 0 13 with kc1 | kc1
  · refine lv_tableOut (tgt := 179) hx hb dX11_count_1 kc1 (by decide) ?_
    refine lv_bipush (v := (-3)) hx hb dX11_count_179 (by decide) ?_
    exact q_reti hE hr hlocks hW (((q_c (k := (-3)) (x := (-3)) (by decide)).w (by decide) (by decide))) dX11_count_181
  · obtain ⟨kc1a, kc1b⟩ := kc1
    by_cases kc1_0 : i1.toInt = 0
    · refine lv_tableIn (off := 71) (tgt := 72) hx hb dX11_count_1 (by rw [kc1_0]; decide) (by rw [kc1_0]; decide) (by rw [kc1_0]; rfl) (by decide) ?_
      have fkc1_0 : q_V 0 0 i1 := q_c kc1_0
      refine lv_aload_n hx hb dX11_count_72 rfl (lv_at hl 0 rfl) ?_
      refine q_getr hE hW h0 rfl q_k11 5 (by decide) rfl (hE.l wl_35) dX11_count_73 (fun kb2 ekb2 hkb2a hkb2b => ?_)
      have hkb2 : q_T G kb2 = 7 := q_tag hkb2a hkb2b
      refine q_geti hE hW hkb2 rfl q_k2 1 (by decide) rfl (hE.n 21 rfl) dX11_count_76 (fun kx3 ekx3 vkx3 => ?_)
      exact q_reti hE hr hlocks hW ((vkx3.w (by decide) (by decide))) dX11_count_79
    by_cases kc1_1 : i1.toInt = 1
    · refine lv_tableIn (off := 79) (tgt := 80) hx hb dX11_count_1 (by rw [kc1_1]; decide) (by rw [kc1_1]; decide) (by rw [kc1_1]; rfl) (by decide) ?_
      have fkc1_1 : q_V 1 1 i1 := q_c kc1_1
      refine lv_aload_n hx hb dX11_count_80 rfl (lv_at hl 0 rfl) ?_
      refine q_getr hE hW h0 rfl q_k11 5 (by decide) rfl (hE.l wl_35) dX11_count_81 (fun kb4 ekb4 hkb4a hkb4b => ?_)
      have hkb4 : q_T G kb4 = 7 := q_tag hkb4a hkb4b
      refine q_geti hE hW hkb4 rfl q_k2 4 (by decide) rfl (hE.n 27 rfl) dX11_count_84 (fun kx5 ekx5 vkx5 => ?_)
      exact q_reti hE hr hlocks hW ((vkx5.w (by decide) (by decide))) dX11_count_87
    by_cases kc1_2 : i1.toInt = 2
    · refine lv_tableIn (off := 87) (tgt := 88) hx hb dX11_count_1 (by rw [kc1_2]; decide) (by rw [kc1_2]; decide) (by rw [kc1_2]; rfl) (by decide) ?_
      have fkc1_2 : q_V 2 2 i1 := q_c kc1_2
      refine lv_aload_n hx hb dX11_count_88 rfl (lv_at hl 0 rfl) ?_
      refine q_getr hE hW h0 rfl q_k11 5 (by decide) rfl (hE.l wl_35) dX11_count_89 (fun kb6 ekb6 hkb6a hkb6b => ?_)
      have hkb6 : q_T G kb6 = 7 := q_tag hkb6a hkb6b
      refine q_geti hE hW hkb6 rfl q_k2 6 (by decide) rfl (hE.n 30 rfl) dX11_count_92 (fun kx7 ekx7 vkx7 => ?_)
      exact q_reti hE hr hlocks hW ((q_all kx7)) dX11_count_95
    by_cases kc1_3 : i1.toInt = 3
    · refine lv_tableIn (off := 95) (tgt := 96) hx hb dX11_count_1 (by rw [kc1_3]; decide) (by rw [kc1_3]; decide) (by rw [kc1_3]; rfl) (by decide) ?_
      have fkc1_3 : q_V 3 3 i1 := q_c kc1_3
      refine lv_aload_n hx hb dX11_count_96 rfl (lv_at hl 0 rfl) ?_
      refine q_getr hE hW h0 rfl q_k11 5 (by decide) rfl (hE.l wl_35) dX11_count_97 (fun kb8 ekb8 hkb8a hkb8b => ?_)
      have hkb8 : q_T G kb8 = 7 := q_tag hkb8a hkb8b
      refine q_geti hE hW hkb8 rfl q_k2 8 (by decide) rfl (hE.n 34 rfl) dX11_count_100 (fun kx9 ekx9 vkx9 => ?_)
      exact q_reti hE hr hlocks hW ((q_all kx9)) dX11_count_103
    by_cases kc1_4 : i1.toInt = 4
    · refine lv_tableIn (off := 103) (tgt := 104) hx hb dX11_count_1 (by rw [kc1_4]; decide) (by rw [kc1_4]; decide) (by rw [kc1_4]; rfl) (by decide) ?_
      have fkc1_4 : q_V 4 4 i1 := q_c kc1_4
      refine lv_aload_n hx hb dX11_count_104 rfl (lv_at hl 0 rfl) ?_
      refine q_getr hE hW h0 rfl q_k11 5 (by decide) rfl (hE.l wl_35) dX11_count_105 (fun kb10 ekb10 hkb10a hkb10b => ?_)
      have hkb10 : q_T G kb10 = 7 := q_tag hkb10a hkb10b
      refine lv_iconst (v := 0) hx hb dX11_count_108 (by decide) ?_
      refine q_goi hW (q_runV (As := [.int 0]) (rest := []) hE hW (c_X2_cloudsThatAre l G σ kb10 hkb10 0) kw_X11_311 (q_recv hE hW hkb10 rfl q_k2) rfl hl.1 rfl (Nat.le_of_ble_eq_true rfl) dX11_count_109 ⟨by decide, by decide⟩ ⟨by decide, by decide⟩) (by decide) (fun kx14 ks12 H locs kp11 kf13 hW => ?_)
      exact q_reti hE hr hlocks hW ((q_all kx14)) dX11_count_112
    by_cases kc1_5 : i1.toInt = 5
    · refine lv_tableIn (off := 112) (tgt := 113) hx hb dX11_count_1 (by rw [kc1_5]; decide) (by rw [kc1_5]; decide) (by rw [kc1_5]; rfl) (by decide) ?_
      have fkc1_5 : q_V 5 5 i1 := q_c kc1_5
      refine lv_aload_n hx hb dX11_count_113 rfl (lv_at hl 0 rfl) ?_
      refine q_getr hE hW h0 rfl q_k11 5 (by decide) rfl (hE.l wl_35) dX11_count_114 (fun kb15 ekb15 hkb15a hkb15b => ?_)
      have hkb15 : q_T G kb15 = 7 := q_tag hkb15a hkb15b
      refine lv_iconst (v := 2) hx hb dX11_count_117 (by decide) ?_
      refine q_goi hW (q_runV (As := [.int 2]) (rest := []) hE hW (c_X2_cloudsThatAre l G σ kb15 hkb15 2) kw_X11_311 (q_recv hE hW hkb15 rfl q_k2) rfl hl.1 rfl (Nat.le_of_ble_eq_true rfl) dX11_count_118 ⟨by decide, by decide⟩ ⟨by decide, by decide⟩) (by decide) (fun kx19 ks17 H locs kp16 kf18 hW => ?_)
      exact q_reti hE hr hlocks hW ((q_all kx19)) dX11_count_121
    by_cases kc1_6 : i1.toInt = 6
    · refine lv_tableIn (off := 121) (tgt := 122) hx hb dX11_count_1 (by rw [kc1_6]; decide) (by rw [kc1_6]; decide) (by rw [kc1_6]; rfl) (by decide) ?_
      have fkc1_6 : q_V 6 6 i1 := q_c kc1_6
      refine lv_aload_n hx hb dX11_count_122 rfl (lv_at hl 0 rfl) ?_
      refine q_getr hE hW h0 rfl q_k11 5 (by decide) rfl (hE.l wl_35) dX11_count_123 (fun kb20 ekb20 hkb20a hkb20b => ?_)
      have hkb20 : q_T G kb20 = 7 := q_tag hkb20a hkb20b
      refine lv_iconst (v := 3) hx hb dX11_count_126 (by decide) ?_
      refine q_goi hW (q_runV (As := [.int 3]) (rest := []) hE hW (c_X2_cloudsThatAre l G σ kb20 hkb20 3) kw_X11_311 (q_recv hE hW hkb20 rfl q_k2) rfl hl.1 rfl (Nat.le_of_ble_eq_true rfl) dX11_count_127 ⟨by decide, by decide⟩ ⟨by decide, by decide⟩) (by decide) (fun kx24 ks22 H locs kp21 kf23 hW => ?_)
      exact q_reti hE hr hlocks hW ((q_all kx24)) dX11_count_130
    by_cases kc1_7 : i1.toInt = 7
    · refine lv_tableIn (off := 130) (tgt := 131) hx hb dX11_count_1 (by rw [kc1_7]; decide) (by rw [kc1_7]; decide) (by rw [kc1_7]; rfl) (by decide) ?_
      have fkc1_7 : q_V 7 7 i1 := q_c kc1_7
      refine lv_aload_n hx hb dX11_count_131 rfl (lv_at hl 0 rfl) ?_
      refine q_getr hE hW h0 rfl q_k11 5 (by decide) rfl (hE.l wl_35) dX11_count_132 (fun kb25 ekb25 hkb25a hkb25b => ?_)
      have hkb25 : q_T G kb25 = 7 := q_tag hkb25a hkb25b
      refine lv_iconst (v := 4) hx hb dX11_count_135 (by decide) ?_
      refine q_goi hW (q_runV (As := [.int 4]) (rest := []) hE hW (c_X2_cloudsThatAre l G σ kb25 hkb25 4) kw_X11_311 (q_recv hE hW hkb25 rfl q_k2) rfl hl.1 rfl (Nat.le_of_ble_eq_true rfl) dX11_count_136 ⟨by decide, by decide⟩ ⟨by decide, by decide⟩) (by decide) (fun kx29 ks27 H locs kp26 kf28 hW => ?_)
      exact q_reti hE hr hlocks hW ((q_all kx29)) dX11_count_139
    by_cases kc1_8 : i1.toInt = 8
    · refine lv_tableIn (off := 139) (tgt := 140) hx hb dX11_count_1 (by rw [kc1_8]; decide) (by rw [kc1_8]; decide) (by rw [kc1_8]; rfl) (by decide) ?_
      have fkc1_8 : q_V 8 8 i1 := q_c kc1_8
      refine lv_aload_n hx hb dX11_count_140 rfl (lv_at hl 0 rfl) ?_
      refine q_geti hE hW h0 rfl q_k11 17 (by decide) rfl (hE.l wl_434) dX11_count_141 (fun kx30 ekx30 vkx30 => ?_)
      exact q_reti hE hr hlocks hW ((q_all kx30)) dX11_count_144
    by_cases kc1_9 : i1.toInt = 9
    · refine lv_tableIn (off := 144) (tgt := 145) hx hb dX11_count_1 (by rw [kc1_9]; decide) (by rw [kc1_9]; decide) (by rw [kc1_9]; rfl) (by decide) ?_
      have fkc1_9 : q_V 9 9 i1 := q_c kc1_9
      refine lv_aload_n hx hb dX11_count_145 rfl (lv_at hl 0 rfl) ?_
      refine q_goi hW (q_runV (As := []) (rest := []) hE hW (c_X11_linesThere l G σ a0 h0) kw_X11_314 (q_recv hE hW h0 rfl q_k11) rfl hl.1 rfl (Nat.le_of_ble_eq_true rfl) dX11_count_146 ⟨by decide, by decide⟩ ⟨by decide, by decide⟩) (by decide) (fun kx34 ks32 H locs kp31 kf33 hW => ?_)
      exact q_reti hE hr hlocks hW ((q_all kx34)) dX11_count_149
    by_cases kc1_10 : i1.toInt = 10
    · refine lv_tableIn (off := 149) (tgt := 150) hx hb dX11_count_1 (by rw [kc1_10]; decide) (by rw [kc1_10]; decide) (by rw [kc1_10]; rfl) (by decide) ?_
      have fkc1_10 : q_V 10 10 i1 := q_c kc1_10
      refine lv_aload_n hx hb dX11_count_150 rfl (lv_at hl 0 rfl) ?_
      refine q_geti hE hW h0 rfl q_k11 10 (by decide) rfl (hE.l wl_435) dX11_count_151 (fun kx35 ekx35 vkx35 => ?_)
      exact q_reti hE hr hlocks hW ((q_all kx35)) dX11_count_154
    by_cases kc1_11 : i1.toInt = 11
    · refine lv_tableIn (off := 154) (tgt := 155) hx hb dX11_count_1 (by rw [kc1_11]; decide) (by rw [kc1_11]; decide) (by rw [kc1_11]; rfl) (by decide) ?_
      have fkc1_11 : q_V 11 11 i1 := q_c kc1_11
      refine lv_aload_n hx hb dX11_count_155 rfl (lv_at hl 0 rfl) ?_
      refine q_getr hE hW h0 rfl q_k11 1 (by decide) rfl (hE.l wl_29) dX11_count_156 (fun kb36 ekb36 hkb36a hkb36b => ?_)
      have hkb36 : q_T G kb36 = 13 := q_tag hkb36a hkb36b
      refine q_geti hE hW hkb36 rfl q_k8 1 (by decide) rfl (hE.n 0 rfl) dX11_count_159 (fun kx37 ekx37 vkx37 => ?_)
      exact q_reti hE hr hlocks hW ((q_all kx37)) dX11_count_162
    by_cases kc1_12 : i1.toInt = 12
    · refine lv_tableIn (off := 162) (tgt := 163) hx hb dX11_count_1 (by rw [kc1_12]; decide) (by rw [kc1_12]; decide) (by rw [kc1_12]; rfl) (by decide) ?_
      have fkc1_12 : q_V 12 12 i1 := q_c kc1_12
      refine lv_aload_n hx hb dX11_count_163 rfl (lv_at hl 0 rfl) ?_
      refine q_getr hE hW h0 rfl q_k11 5 (by decide) rfl (hE.l wl_35) dX11_count_164 (fun kb38 ekb38 hkb38a hkb38b => ?_)
      have hkb38 : q_T G kb38 = 7 := q_tag hkb38a hkb38b
      refine q_geti hE hW hkb38 rfl q_k2 7 (by decide) rfl (hE.n 32 rfl) dX11_count_167 (fun kx39 ekx39 vkx39 => ?_)
      exact q_reti hE hr hlocks hW ((q_all kx39)) dX11_count_170
    have kc1_13 : i1.toInt = 13 := by omega
    refine lv_tableIn (off := 170) (tgt := 171) hx hb dX11_count_1 (by rw [kc1_13]; decide) (by rw [kc1_13]; decide) (by rw [kc1_13]; rfl) (by decide) ?_
    have fkc1_13 : q_V 13 13 i1 := q_c kc1_13
    refine lv_aload_n hx hb dX11_count_171 rfl (lv_at hl 0 rfl) ?_
    refine q_getr hE hW h0 rfl q_k11 5 (by decide) rfl (hE.l wl_35) dX11_count_172 (fun kb40 ekb40 hkb40a hkb40b => ?_)
    have hkb40 : q_T G kb40 = 7 := q_tag hkb40a hkb40b
    refine q_goi hW (q_runV (As := []) (rest := []) hE hW (c_X2_allWater l G σ kb40 hkb40) kw_X11_320 (q_recv hE hW hkb40 rfl q_k2) rfl hl.1 rfl (Nat.le_of_ble_eq_true rfl) dX11_count_175 ⟨by decide, by decide⟩ ⟨by decide, by decide⟩) (by decide) (fun kx44 ks42 H locs kp41 kf43 hW => ?_)
    exact q_reti hE hr hlocks hW ((q_all kx44)) dX11_count_178
