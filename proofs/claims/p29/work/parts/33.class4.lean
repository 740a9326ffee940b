theorem kw_X11_117 : q_wV RX11 RX7 117 yX7_read cX7_read 2 (some .int) 1 := ⟨q_goodV wl_187 wl_188 wl_189 wl_39 wl_190, rfl, by decide, by decide, by decide +kernel⟩
theorem kw_X7_23 : q_wV RX7 RX2 23 yX2_copyFrom cX2_copyFrom 3 none 1 := ⟨q_goodV wl_194 wl_195 wl_196 wl_32 wl_197, rfl, by decide, by decide, by decide +kernel⟩
theorem kw_X7_39 : q_wV RX7 RX7 39 yX7_readsClause cX7_readsClause 2 (some .boolean) 0 := ⟨q_goodV wl_226 wl_227 wl_228 wl_39 wl_229, rfl, by decide, by decide, by decide +kernel⟩
theorem kw_X7_59 : q_wV RX7 RJ0 59 yJ0_length_8abf5 cJ0_length_8abf5 1 (some .int) 0 := ⟨q_goodV wl_234 wl_235 wl_236 wl_237 wl_238, rfl, by decide, by decide, by decide +kernel⟩
theorem kw_X7_64 : q_wV RX7 RJ0 64 yJ0_charAt_5068e cJ0_charAt_5068e 2 (some .char) 1 := ⟨q_goodV wl_246 wl_247 wl_248 wl_237 wl_249, rfl, by decide, by decide, by decide +kernel⟩
theorem kw_X7_69 : q_wV RX7 RX7 69 yX7_isWord cX7_isWord 3 (some .boolean) 1 := ⟨q_goodV wl_230 wl_231 wl_232 wl_39 wl_233, rfl, by decide, by decide, by decide +kernel⟩
theorem kw_X7_73 : q_wV RX7 RX2 73 yX2_untell cX2_untell 1 none 0 := ⟨q_goodV wl_283 wl_284 wl_285 wl_32 wl_286, rfl, by decide, by decide, by decide +kernel⟩
theorem kw_X7_78 : q_wV RX7 RX7 78 yX7_readsStain cX7_readsStain 4 (some .boolean) 0 := ⟨q_goodV wl_287 wl_288 wl_289 wl_39 wl_290, rfl, by decide, by decide, by decide +kernel⟩
theorem kw_X7_83 : q_wV RX7 RX7 83 yX7_readsWasher cX7_readsWasher 2 (some .boolean) 0 := ⟨q_goodV wl_299 wl_300 wl_301 wl_39 wl_302, rfl, by decide, by decide, by decide +kernel⟩
theorem kw_X7_88 : q_wV RX7 RX7 88 yX7_readsSoap cX7_readsSoap 2 (some .boolean) 0 := ⟨q_goodV wl_307 wl_308 wl_309 wl_39 wl_310, rfl, by decide, by decide, by decide +kernel⟩
theorem kw_X7_93 : q_wV RX7 RX7 93 yX7_readsEye cX7_readsEye 2 (some .boolean) 0 := ⟨q_goodV wl_311 wl_312 wl_313 wl_39 wl_314, rfl, by decide, by decide, by decide +kernel⟩
theorem kw_X7_102 : q_wV RX7 RX7 102 yX7_readsCloud cX7_readsCloud 4 (some .boolean) 1 := ⟨q_goodV wl_329 wl_330 wl_331 wl_39 wl_332, rfl, by decide, by decide, by decide +kernel⟩
set_option maxHeartbeats 4000000 in
set_option maxRecDepth 100000 in
theorem c_X7_isWord (l : Launch) (G : q_G) (σ : q_S) (a0 : Nat) (h0 : q_T G a0 = 15) (k1 : Nat) (hk1 : k1 < 9)  : Met l yX7_isWord (Cond.code yX7_isWord cX7_isWord 3 (some .boolean) :: wsL_law) (q_Rm 5) (q_Pre G σ [.ref a0, .ref (q_aK G k1)]) (q_Qi G [] σ (fun r σ1 => q_V 0 1 r)) 0 0 (q_N G) := by
  refine q_ofW (ts := []) (by decide) (Nat.le_of_ble_eq_true rfl) ?_
  intro p e s m args below meth c hE hr hlocks hW ls hl
  have hE : q_E G p s m args c cX7_isWord 3 RX7 := hE
  have hx := hE.1.1
  have hb := hE.1.2.1
  have hl : lv_has ls 3 [(0, .ref a0), (1, .ref (q_aK G k1))] := hl
  have lp20a : ∀ (n20a : Nat) (ks2 : q_S) (H : Heap) (locs : List Loc) (kx1 : Int32) (vkx1 : q_V 0 7 kx1) (hW : q_Wd G [] σ s.heap ks2 H locs) (ls : Array Slot) (hl : lv_has ls 3 [(0, .ref a0), (1, .ref (q_aK G k1)), (2, .int kx1)]), (7 - kx1.toInt).toNat < n20a → W p l e (q_Rm 5) s m args below meth c H locs 0 0 (MQ below (q_Qi G [] σ (fun r σ1 => q_V 0 1 r)) args s 0 0 (q_N G)) (F0 m 20 ls []) := by
    intro n20a
    induction n20a with
    | zero => intro _ _ _ _ _ _ _ _; exact fun h => absurd h (Nat.not_lt_zero _)
    | succ n20a ih20a =>
      intro ks2 H locs kx1 vkx1 hW ls hl hm20a
      refine lv_iload_n hx hb dX7_isWord_20 rfl (lv_at hl 2 rfl) ?_
      refine lv_aload_n hx hb dX7_isWord_21 rfl (lv_at hl 1 rfl) ?_
      refine q_goi hW (q_runV (As := []) (rest := [.int kx1]) hE hW (c_J0_length l G ks2 k1 hk1) kw_X7_59 (q_recvS hE hW hk1) rfl hl.1 rfl (Nat.le_of_ble_eq_true rfl) dX7_isWord_22 ⟨by decide, by decide⟩ ⟨by decide, by decide⟩) (by decide) (fun kx6 ks5 H locs kp3 kf4 hW => ?_)
      have vkx6 : q_V 3 7 kx6 := by rw [kp3]; exact q_lenV hk1
      refine lv_icmp_ge (tgt := 57) hx hb dX7_isWord_25 (by decide) (fun kc7 => ?_) (fun kc7 => ?_)
      · have kv8 : q_V 3 7 kx1 := (q_le2 vkx6 vkx1 kc7).w (by decide) (by decide)
        refine lv_iconst (v := 1) hx hb dX7_isWord_57 (by decide) ?_
        exact q_retz hE hr hlocks hW (Or.inr rfl) (((q_c (k := 1) (x := 1) (by decide)).w (by decide) (by decide))) dX7_isWord_58
      · have kv9 : q_V 0 6 kx1 := (q_lt1 vkx1 vkx6 (Int32.not_le.mp kc7)).w (by decide) (by decide)
        refine lv_aload_n hx hb dX7_isWord_28 rfl (lv_at hl 0 rfl) ?_
        refine q_getr hE hW h0 rfl q_k7 0 (by decide) rfl (hE.l wl_105) dX7_isWord_29 (fun kb10 ekb10 hkb10a hkb10b => ?_)
        have hkb10 : q_T G kb10 = 13 := q_tag hkb10a hkb10b
        refine lv_aload_n hx hb dX7_isWord_32 rfl (lv_at hl 0 rfl) ?_
        refine q_geti hE hW h0 rfl q_k7 3 (by decide) rfl (hE.l wl_193) dX7_isWord_33 (fun kx11 ekx11 vkx11 => ?_)
        refine lv_iload_n hx hb dX7_isWord_36 rfl (lv_at hl 2 rfl) ?_
        refine lv_iadd hx hb dX7_isWord_37 ?_
        refine lv_topi (fun kx12 ekx12 => ?_)
        refine q_goi hW (q_runV (As := [.int kx12]) (rest := []) hE hW (c_X8_at l G ks5 kb10 hkb10 kx12) kw_X7_51 (q_recv hE hW hkb10 rfl q_k8) rfl hl.1 rfl (Nat.le_of_ble_eq_true rfl) dX7_isWord_38 ⟨by decide, by decide⟩ ⟨by decide, by decide⟩) (by decide) (fun kx16 ks14 H locs kp13 kf15 hW => ?_)
        refine lv_aload_n hx hb dX7_isWord_41 rfl (lv_at hl 1 rfl) ?_
        refine lv_iload_n hx hb dX7_isWord_42 rfl (lv_at hl 2 rfl) ?_
        have kh21 : kx1 < nI (q_len.getD k1 0) := by rw [← kp3]; exact (Int32.not_le.mp kc7)
        have kh22 := q_inS hk1 kv9 (by decide) kh21
        refine q_goi hW (q_runV (As := [.int kx1]) (rest := [.int kx16]) hE hW (c_J0_charAt l G ks14 k1 hk1 kx1 kh22.1 kh21 kh22.2) kw_X7_64 (q_recvS hE hW hk1) rfl hl.1 rfl (Nat.le_of_ble_eq_true rfl) dX7_isWord_43 ⟨by decide, by decide⟩ ⟨by decide, by decide⟩) (by decide) (fun kx20 ks19 H locs kp17 kf18 hW => ?_)
        refine lv_icmp_eq (tgt := 51) hx hb dX7_isWord_46 (by decide) (fun kc23 => ?_) (fun kc23 => ?_)
        · obtain ⟨kx24, ekx24⟩ : ∃ y : Int32, y = kx1 + 1 := ⟨_, rfl⟩
          have vkx24 : q_V 1 7 kx24 := by rw [ekx24]; exact (q_add kv9 (q_c (k := 1) (x := 1) (by decide)) (by decide) (by decide)).w (by decide) (by decide)
          have ikx24 : kx24.toInt = kx1.toInt + 1 := q_incT ekx24 kv9 (by decide) (by decide) (by decide)
          refine lv_iinc (v := kx24) (lv' := [(2, .int kx24), (0, .ref a0), (1, .ref (q_aK G k1))]) hx hb dX7_isWord_51 hl (k := 2) rfl (by rw [ekx24]; rfl) (by decide) rfl (fun ls hl => ?_)
          refine lv_goto (tgt := 20) hx hb dX7_isWord_54 (by decide) ?_
          exact ih20a _ _ _ kx24 (vkx24.w (by decide) (by decide)) hW ls (lv_sub hl [1, 2, 0] rfl) (Nat.lt_of_lt_of_le (q_up (ikx24) (show q_V 1 7 kx24 from vkx24).2) (Nat.le_of_lt_succ hm20a))
        · refine lv_iconst (v := 0) hx hb dX7_isWord_49 (by decide) ?_
          exact q_retz hE hr hlocks hW (Or.inl rfl) (((q_c (k := 0) (x := 0) (by decide)).w (by decide) (by decide))) dX7_isWord_50
  refine lv_aload_n hx hb dX7_isWord_0 rfl (lv_at hl 0 rfl) ?_
  refine q_geti hE hW h0 rfl q_k7 4 (by decide) rfl (hE.l wl_191) dX7_isWord_1 (fun kx25 ekx25 vkx25 => ?_)
  refine lv_aload_n hx hb dX7_isWord_4 rfl (lv_at hl 0 rfl) ?_
  refine q_geti hE hW h0 rfl q_k7 3 (by decide) rfl (hE.l wl_193) dX7_isWord_5 (fun kx26 ekx26 vkx26 => ?_)
  refine lv_isub hx hb dX7_isWord_8 ?_
  refine lv_topi (fun kx27 ekx27 => ?_)
  refine lv_aload_n hx hb dX7_isWord_9 rfl (lv_at hl 1 rfl) ?_
  refine q_goi hW (q_runV (As := []) (rest := [.int kx27]) hE hW (c_J0_length l G σ k1 hk1) kw_X7_59 (q_recvS hE hW hk1) rfl hl.1 rfl (Nat.le_of_ble_eq_true rfl) dX7_isWord_10 ⟨by decide, by decide⟩ ⟨by decide, by decide⟩) (by decide) (fun kx31 ks30 H locs kp28 kf29 hW => ?_)
  have vkx31 : q_V 3 7 kx31 := by rw [kp28]; exact q_lenV hk1
  refine lv_icmp_eq (tgt := 18) hx hb dX7_isWord_13 (by decide) (fun kc32 => ?_) (fun kc32 => ?_)
  · have kv33 : q_V 3 7 kx27 := q_eq1 (q_all kx27) vkx31 kc32 (by decide) (by decide)
    refine lv_iconst (v := 0) hx hb dX7_isWord_18 (by decide) ?_
    refine lv_istore_n (lv' := [(2, .int 0), (0, .ref a0), (1, .ref (q_aK G k1))]) hx hb dX7_isWord_19 rfl hl (by decide) rfl (fun ls hl => ?_)
    exact lp20a _ _ _ _ 0 ((q_c (k := 0) (x := 0) (by decide)).w (by decide) (by decide)) hW ls (lv_sub hl [1, 2, 0] rfl) (Nat.lt_succ_self _)
  · refine lv_iconst (v := 0) hx hb dX7_isWord_16 (by decide) ?_
    exact q_retz hE hr hlocks hW (Or.inl rfl) (((q_c (k := 0) (x := 0) (by decide)).w (by decide) (by decide))) dX7_isWord_17
set_option maxHeartbeats 4000000 in
set_option maxRecDepth 100000 in
theorem c_X7_readsClause (l : Launch) (G : q_G) (σ : q_S) (a0 : Nat) (h0 : q_T G a0 = 15)  : Met l yX7_readsClause (Cond.code yX7_readsClause cX7_readsClause 2 (some .boolean) :: wsL_law) (q_Rm 6) (q_Pre G σ [.ref a0]) (q_Qi G [5, 6, 7, 9, 15] σ (fun r σ1 => q_V 0 1 r ∧ q_ff σ σ1 a0 [3, 4])) 0 0 (q_N G) := by
  refine q_ofW (ts := [5, 6, 7, 9, 15]) (by decide) (Nat.le_of_ble_eq_true rfl) ?_
  intro p e s m args below meth c hE hr hlocks hW ls hl
  have hE : q_E G p s m args c cX7_readsClause 2 RX7 := hE
  have hx := hE.1.1
  have hb := hE.1.2.1
  have hl : lv_has ls 2 [(0, .ref a0)] := hl
  have lp80a : ∀ (n80a : Nat) (ks2 : q_S) (H : Heap) (locs : List Loc) (kx1 : Int32) (vkx1 : q_V 0 4 kx1) (hW : q_Wd G [5, 6, 7, 9, 15] σ s.heap ks2 H locs) (hff80a : q_ff σ ks2 a0 [3, 4]) (ls : Array Slot) (hl : lv_has ls 2 [(0, .ref a0), (1, .int kx1)]), (4 - kx1.toInt).toNat < n80a → W p l e (q_Rm 6) s m args below meth c H locs 0 0 (MQ below (q_Qi G [5, 6, 7, 9, 15] σ (fun r σ1 => q_V 0 1 r ∧ q_ff σ σ1 a0 [3, 4])) args s 0 0 (q_N G)) (F0 m 80 ls []) := by
    intro n80a
    induction n80a with
    | zero => intro _ _ _ _ _ _ _ _ _; exact fun h => absurd h (Nat.not_lt_zero _)
    | succ n80a ih80a =>
      intro ks2 H locs kx1 vkx1 hW hff80a ls hl hm80a
      refine lv_iload_n hx hb dX7_readsClause_80 rfl (lv_at hl 1 rfl) ?_
      refine lv_aload_n hx hb dX7_readsClause_81 rfl (lv_at hl 0 rfl) ?_
      refine q_getr hE hW h0 rfl q_k7 2 (by decide) rfl (hE.l wl_107) dX7_readsClause_82 (fun kb3 ekb3 hkb3a hkb3b => ?_)
      have hkb3 : q_T G kb3 = 27 := q_tag hkb3a hkb3b
      refine q_alen hE hW hkb3 rfl dX7_readsClause_85 ?_
      refine lv_eqi (y := 4) (by decide) ?_
      refine lv_icmp_ge (tgt := 122) hx hb dX7_readsClause_86 (by decide) (fun kc4 => ?_) (fun kc4 => ?_)
      · have kv5 : q_V 4 4 kx1 := (q_le2 (q_c (k := 4) (x := 4) (by decide)) vkx1 kc4).w (by decide) (by decide)
        refine lv_iconst (v := 0) hx hb dX7_readsClause_122 (by decide) ?_
        exact q_retz hE hr hlocks hW (Or.inl rfl) (⟨((q_c (k := 0) (x := 0) (by decide)).w (by decide) (by decide)), hff80a⟩) dX7_readsClause_123
      · have kv6 : q_V 0 3 kx1 := (q_lt1 vkx1 (q_c (k := 4) (x := 4) (by decide)) (Int32.not_le.mp kc4)).w (by decide) (by decide)
        refine lv_aload_n hx hb dX7_readsClause_89 rfl (lv_at hl 0 rfl) ?_
        refine lv_aload_n hx hb dX7_readsClause_90 rfl (lv_at hl 0 rfl) ?_
        refine q_getr hE hW h0 rfl q_k7 2 (by decide) rfl (hE.l wl_107) dX7_readsClause_91 (fun kb7 ekb7 hkb7a hkb7b => ?_)
        obtain rfl : kb3 = kb7 := ekb3.symm.trans ekb7
        refine lv_iload_n hx hb dX7_readsClause_94 rfl (lv_at hl 1 rfl) ?_
        refine q_aald hE hW hkb3 rfl (q_in kv6 (by decide) (by decide)) dX7_readsClause_95 (fun kb8 ekb8 hkb8a hkb8b => ?_)
        refine q_goq hW (kd_X7_96 l (rest := [.ref a0]) hE hW hkb8a hkb8b hl.1 rfl (Nat.le_of_ble_eq_true rfl) dX7_readsClause_96 ⟨by decide, by decide⟩ ⟨by decide, by decide⟩) (by decide) (fun ks11 H locs kp9 kf10 hW => ?_) (fun kb12 ks11 H locs kp9 kf10 hW => ?_)
        · obtain ⟨_, _, q_h⟩ := kp9; cases q_h
        obtain ⟨kk13, hkk13, q_h⟩ := kp9
        obtain rfl := Option.some.inj q_h
        refine q_goi hW (q_runV (As := [.ref (q_aK G kk13)]) (rest := []) hE hW (c_X7_isWord l G ks11 a0 h0 kk13 hkk13) kw_X7_69 (q_recv hE hW h0 rfl q_k7) rfl hl.1 rfl (Nat.le_of_ble_eq_true rfl) dX7_readsClause_99 ⟨by decide, by decide⟩ ⟨by decide, by decide⟩) (by decide) (fun kx17 ks15 H locs kp14 kf16 hW => ?_)
        refine lv_if_eq (tgt := 116) hx hb dX7_readsClause_102 (by decide) (fun kc18 => ?_) (fun kc18 => ?_)
        · have kv19 : q_V 0 0 kx17 := q_eq1 kp14 (q_c (k := 0) (x := 0) (by decide)) kc18 (by decide) (by decide)
          obtain ⟨kx20, ekx20⟩ : ∃ y : Int32, y = kx1 + 1 := ⟨_, rfl⟩
          have vkx20 : q_V 1 4 kx20 := by rw [ekx20]; exact (q_add kv6 (q_c (k := 1) (x := 1) (by decide)) (by decide) (by decide)).w (by decide) (by decide)
          have ikx20 : kx20.toInt = kx1.toInt + 1 := q_incT ekx20 kv6 (by decide) (by decide) (by decide)
          refine lv_iinc (v := kx20) (lv' := [(1, .int kx20), (0, .ref a0)]) hx hb dX7_readsClause_116 hl (k := 1) rfl (by rw [ekx20]; rfl) (by decide) rfl (fun ls hl => ?_)
          refine lv_goto (tgt := 80) hx hb dX7_readsClause_119 (by decide) ?_
          exact ih80a _ _ _ kx20 (vkx20.w (by decide) (by decide)) hW ((hff80a.fr kf10 h0 (by decide)).fr kf16 h0 (by decide)) ls (lv_sub hl [1, 0] rfl) (Nat.lt_of_lt_of_le (q_up (ikx20) (show q_V 1 4 kx20 from vkx20).2) (Nat.le_of_lt_succ hm80a))
        · have kv21 : q_V 1 1 kx17 := q_ne1 kp14 (q_c (k := 0) (x := 0) (by decide)) kc18 (by decide)
          refine lv_aload_n hx hb dX7_readsClause_105 rfl (lv_at hl 0 rfl) ?_
          refine lv_aload_n hx hb dX7_readsClause_106 rfl (lv_at hl 0 rfl) ?_
          refine q_getr hE hW h0 rfl q_k7 2 (by decide) rfl (hE.l wl_107) dX7_readsClause_107 (fun kb22 ekb22 hkb22a hkb22b => ?_)
          obtain rfl : kb3 = kb22 := (((kf16.R _ h0 (by decide)).trans (kf10.R _ h0 (by decide))).trans ekb3).symm.trans ekb22
          refine lv_iload_n hx hb dX7_readsClause_110 rfl (lv_at hl 1 rfl) ?_
          refine q_aald hE hW hkb3 rfl (q_in kv6 (by decide) (by decide)) dX7_readsClause_111 (fun kb23 ekb23 hkb23a hkb23b => ?_)
          obtain rfl : kb8 = kb23 := (((kf16.Q _ hkb3 (by decide)).trans (kf10.Q _ hkb3 (by decide))).trans ekb8).symm.trans ekb23
          refine q_goi hW (q_runV (As := [.ref kb8]) (rest := []) hE hW (c_X7_readsCloud l G ks15 a0 h0 kb8 (Int.le_trans (by decide) hkb8a) (Int.le_trans hkb8b (by decide))) kw_X7_102 (q_recv hE hW h0 rfl q_k7) rfl hl.1 rfl (Nat.le_of_ble_eq_true rfl) dX7_readsClause_112 ⟨by decide, by decide⟩ ⟨by decide, by decide⟩) (by decide) (fun kx27 ks25 H locs kp24 kf26 hW => ?_)
          exact q_retz hE hr hlocks hW (q_01 kp24.1) (⟨kp24.1, (((hff80a.fr kf10 h0 (by decide)).fr kf16 h0 (by decide)).tr kp24.2 (by decide))⟩) dX7_readsClause_115
  refine lv_aload_n hx hb dX7_readsClause_0 rfl (lv_at hl 0 rfl) ?_
  refine q_ldcS hE 0 rfl dX7_readsClause_1 ?_
  refine q_goi hW (q_runV (As := [.ref (q_aK G 0)]) (rest := []) hE hW (c_X7_isWord l G σ a0 h0 0 (by decide)) kw_X7_69 (q_recv hE hW h0 rfl q_k7) rfl hl.1 rfl (Nat.le_of_ble_eq_true rfl) dX7_readsClause_3 ⟨by decide, by decide⟩ ⟨by decide, by decide⟩) (by decide) (fun kx31 ks29 H locs kp28 kf30 hW => ?_)
  refine lv_if_eq (tgt := 22) hx hb dX7_readsClause_6 (by decide) (fun kc32 => ?_) (fun kc32 => ?_)
  · have kv33 : q_V 0 0 kx31 := q_eq1 kp28 (q_c (k := 0) (x := 0) (by decide)) kc32 (by decide) (by decide)
    refine lv_aload_n hx hb dX7_readsClause_22 rfl (lv_at hl 0 rfl) ?_
    refine q_ldcS hE 1 rfl dX7_readsClause_23 ?_
    refine q_goi hW (q_runV (As := [.ref (q_aK G 1)]) (rest := []) hE hW (c_X7_isWord l G ks29 a0 h0 1 (by decide)) kw_X7_69 (q_recv hE hW h0 rfl q_k7) rfl hl.1 rfl (Nat.le_of_ble_eq_true rfl) dX7_readsClause_25 ⟨by decide, by decide⟩ ⟨by decide, by decide⟩) (by decide) (fun kx37 ks35 H locs kp34 kf36 hW => ?_)
    refine lv_if_eq (tgt := 36) hx hb dX7_readsClause_28 (by decide) (fun kc38 => ?_) (fun kc38 => ?_)
    · have kv39 : q_V 0 0 kx37 := q_eq1 kp34 (q_c (k := 0) (x := 0) (by decide)) kc38 (by decide) (by decide)
      refine lv_aload_n hx hb dX7_readsClause_36 rfl (lv_at hl 0 rfl) ?_
      refine q_ldcS hE 2 rfl dX7_readsClause_37 ?_
      refine q_goi hW (q_runV (As := [.ref (q_aK G 2)]) (rest := []) hE hW (c_X7_isWord l G ks35 a0 h0 2 (by decide)) kw_X7_69 (q_recv hE hW h0 rfl q_k7) rfl hl.1 rfl (Nat.le_of_ble_eq_true rfl) dX7_readsClause_39 ⟨by decide, by decide⟩ ⟨by decide, by decide⟩) (by decide) (fun kx43 ks41 H locs kp40 kf42 hW => ?_)
      refine lv_if_eq (tgt := 50) hx hb dX7_readsClause_42 (by decide) (fun kc44 => ?_) (fun kc44 => ?_)
      · have kv45 : q_V 0 0 kx43 := q_eq1 kp40 (q_c (k := 0) (x := 0) (by decide)) kc44 (by decide) (by decide)
        refine lv_aload_n hx hb dX7_readsClause_50 rfl (lv_at hl 0 rfl) ?_
        refine q_ldcS hE 3 rfl dX7_readsClause_51 ?_
        refine q_goi hW (q_runV (As := [.ref (q_aK G 3)]) (rest := []) hE hW (c_X7_isWord l G ks41 a0 h0 3 (by decide)) kw_X7_69 (q_recv hE hW h0 rfl q_k7) rfl hl.1 rfl (Nat.le_of_ble_eq_true rfl) dX7_readsClause_53 ⟨by decide, by decide⟩ ⟨by decide, by decide⟩) (by decide) (fun kx49 ks47 H locs kp46 kf48 hW => ?_)
        refine lv_if_eq (tgt := 64) hx hb dX7_readsClause_56 (by decide) (fun kc50 => ?_) (fun kc50 => ?_)
        · have kv51 : q_V 0 0 kx49 := q_eq1 kp46 (q_c (k := 0) (x := 0) (by decide)) kc50 (by decide) (by decide)
          refine lv_aload_n hx hb dX7_readsClause_64 rfl (lv_at hl 0 rfl) ?_
          refine q_ldcS hE 4 rfl dX7_readsClause_65 ?_
          refine q_goi hW (q_runV (As := [.ref (q_aK G 4)]) (rest := []) hE hW (c_X7_isWord l G ks47 a0 h0 4 (by decide)) kw_X7_69 (q_recv hE hW h0 rfl q_k7) rfl hl.1 rfl (Nat.le_of_ble_eq_true rfl) dX7_readsClause_67 ⟨by decide, by decide⟩ ⟨by decide, by decide⟩) (by decide) (fun kx55 ks53 H locs kp52 kf54 hW => ?_)
          refine lv_if_eq (tgt := 78) hx hb dX7_readsClause_70 (by decide) (fun kc56 => ?_) (fun kc56 => ?_)
          · have kv57 : q_V 0 0 kx55 := q_eq1 kp52 (q_c (k := 0) (x := 0) (by decide)) kc56 (by decide) (by decide)
            refine lv_iconst (v := 0) hx hb dX7_readsClause_78 (by decide) ?_
            refine lv_istore_n (lv' := [(1, .int 0), (0, .ref a0)]) hx hb dX7_readsClause_79 rfl hl (by decide) rfl (fun ls hl => ?_)
            exact lp80a _ _ _ _ 0 ((q_c (k := 0) (x := 0) (by decide)).w (by decide) (by decide)) hW (((((q_ff.rf.fr kf30 h0 (by decide)).fr kf36 h0 (by decide)).fr kf42 h0 (by decide)).fr kf48 h0 (by decide)).fr kf54 h0 (by decide)) ls (lv_sub hl [1, 0] rfl) (Nat.lt_succ_self _)
          · have kv58 : q_V 1 1 kx55 := q_ne1 kp52 (q_c (k := 0) (x := 0) (by decide)) kc56 (by decide)
            refine lv_aload_n hx hb dX7_readsClause_73 rfl (lv_at hl 0 rfl) ?_
            refine q_goi hW (q_runV (As := []) (rest := []) hE hW (c_X7_readsEye l G ks53 a0 h0) kw_X7_93 (q_recv hE hW h0 rfl q_k7) rfl hl.1 rfl (Nat.le_of_ble_eq_true rfl) dX7_readsClause_74 ⟨by decide, by decide⟩ ⟨by decide, by decide⟩) (by decide) (fun kx62 ks60 H locs kp59 kf61 hW => ?_)
            exact q_retz hE hr hlocks hW (q_01 kp59.1) (⟨kp59.1, ((((((q_ff.rf.fr kf30 h0 (by decide)).fr kf36 h0 (by decide)).fr kf42 h0 (by decide)).fr kf48 h0 (by decide)).fr kf54 h0 (by decide)).tr kp59.2 (by decide))⟩) dX7_readsClause_77
        · have kv63 : q_V 1 1 kx49 := q_ne1 kp46 (q_c (k := 0) (x := 0) (by decide)) kc50 (by decide)
          refine lv_aload_n hx hb dX7_readsClause_59 rfl (lv_at hl 0 rfl) ?_
          refine q_goi hW (q_runV (As := []) (rest := []) hE hW (c_X7_readsSoap l G ks47 a0 h0) kw_X7_88 (q_recv hE hW h0 rfl q_k7) rfl hl.1 rfl (Nat.le_of_ble_eq_true rfl) dX7_readsClause_60 ⟨by decide, by decide⟩ ⟨by decide, by decide⟩) (by decide) (fun kx67 ks65 H locs kp64 kf66 hW => ?_)
          exact q_retz hE hr hlocks hW (q_01 kp64.1) (⟨kp64.1, (((((q_ff.rf.fr kf30 h0 (by decide)).fr kf36 h0 (by decide)).fr kf42 h0 (by decide)).fr kf48 h0 (by decide)).tr kp64.2 (by decide))⟩) dX7_readsClause_63
      · have kv68 : q_V 1 1 kx43 := q_ne1 kp40 (q_c (k := 0) (x := 0) (by decide)) kc44 (by decide)
        refine lv_aload_n hx hb dX7_readsClause_45 rfl (lv_at hl 0 rfl) ?_
        refine q_goi hW (q_runV (As := []) (rest := []) hE hW (c_X7_readsWasher l G ks41 a0 h0) kw_X7_83 (q_recv hE hW h0 rfl q_k7) rfl hl.1 rfl (Nat.le_of_ble_eq_true rfl) dX7_readsClause_46 ⟨by decide, by decide⟩ ⟨by decide, by decide⟩) (by decide) (fun kx72 ks70 H locs kp69 kf71 hW => ?_)
        exact q_retz hE hr hlocks hW (q_01 kp69.1) (⟨kp69.1, ((((q_ff.rf.fr kf30 h0 (by decide)).fr kf36 h0 (by decide)).fr kf42 h0 (by decide)).tr kp69.2 (by decide))⟩) dX7_readsClause_49
    · have kv73 : q_V 1 1 kx37 := q_ne1 kp34 (q_c (k := 0) (x := 0) (by decide)) kc38 (by decide)
      refine lv_aload_n hx hb dX7_readsClause_31 rfl (lv_at hl 0 rfl) ?_
      refine q_goi hW (q_runV (As := []) (rest := []) hE hW (c_X7_readsStain l G ks35 a0 h0) kw_X7_78 (q_recv hE hW h0 rfl q_k7) rfl hl.1 rfl (Nat.le_of_ble_eq_true rfl) dX7_readsClause_32 ⟨by decide, by decide⟩ ⟨by decide, by decide⟩) (by decide) (fun kx77 ks75 H locs kp74 kf76 hW => ?_)
      exact q_retz hE hr hlocks hW (q_01 kp74.1) (⟨kp74.1, (((q_ff.rf.fr kf30 h0 (by decide)).fr kf36 h0 (by decide)).tr kp74.2 (by decide))⟩) dX7_readsClause_35
  · have kv78 : q_V 1 1 kx31 := q_ne1 kp28 (q_c (k := 0) (x := 0) (by decide)) kc32 (by decide)
    refine lv_aload_n hx hb dX7_readsClause_9 rfl (lv_at hl 0 rfl) ?_
    refine q_getr hE hW h0 rfl q_k7 1 (by decide) rfl (hE.l wl_106) dX7_readsClause_10 (fun kb79 ekb79 hkb79a hkb79b => ?_)
    have hkb79 : q_T G kb79 = 7 := q_tag hkb79a hkb79b
    refine q_gov hW (q_runV (As := []) (rest := []) hE hW (c_X2_untell l G ks29 kb79 hkb79) kw_X7_73 (q_recv hE hW hkb79 rfl q_k2) rfl hl.1 rfl (Nat.le_of_ble_eq_true rfl) dX7_readsClause_13 ⟨by decide, by decide⟩ ⟨by decide, by decide⟩) (by decide) (fun ks81 H locs kp80 kf82 hW => ?_)
    refine lv_aload_n hx hb dX7_readsClause_16 rfl (lv_at hl 0 rfl) ?_
    refine q_gov hW (q_runV (As := []) (rest := []) hE hW (c_X7_step l G ks81 a0 h0) kw_X7_33 (q_recv hE hW h0 rfl q_k7) rfl hl.1 rfl (Nat.le_of_ble_eq_true rfl) dX7_readsClause_17 ⟨by decide, by decide⟩ ⟨by decide, by decide⟩) (by decide) (fun ks84 H locs kp83 kf85 hW => ?_)
    refine lv_iconst (v := 1) hx hb dX7_readsClause_20 (by decide) ?_
    exact q_retz hE hr hlocks hW (Or.inr rfl) (⟨((q_c (k := 1) (x := 1) (by decide)).w (by decide) (by decide)), (((q_ff.rf.fr kf30 h0 (by decide)).fr kf82 h0 (by decide)).tr kp83 (by decide))⟩) dX7_readsClause_21
set_option maxHeartbeats 4000000 in
set_option maxRecDepth 100000 in
theorem c_X7_read (l : Launch) (G : q_G) (σ : q_S) (a0 : Nat) (h0 : q_T G a0 = 15) (a1 : Nat) (h1 : q_T G a1 = 7)  : Met l yX7_read (Cond.code yX7_read cX7_read 2 (some .int) :: wsL_law) (q_Rm 7) (q_Pre G σ [.ref a0, .ref a1]) (q_Qi G [5, 6, 7, 9, 10, 12, 15] σ (fun r σ1 => q_V (-2147483648) 2147483647 r)) 0 0 (q_N G) := by
  refine q_ofW (ts := [5, 6, 7, 9, 10, 12, 15]) (by decide) (Nat.le_of_ble_eq_true rfl) ?_
  intro p e s m args below meth c hE hr hlocks hW ls hl
  have hE : q_E G p s m args c cX7_read 2 RX7 := hE
  have hx := hE.1.1
  have hb := hE.1.2.1
  have hl : lv_has ls 2 [(0, .ref a0), (1, .ref a1)] := hl
  have lp22a : ∀ (n22a : Nat) (ks1 : q_S) (H : Heap) (locs : List Loc) (kx2 : Int32) (vkx2 : q_V 1 20 kx2) (ke3 : q_I ks1 a0 5 = kx2) (hW : q_Wd G [5, 6, 7, 9, 10, 12, 15] σ s.heap ks1 H locs) (ls : Array Slot) (hl : lv_has ls 2 [(0, .ref a0)]), (20 - kx2.toInt).toNat < n22a → W p l e (q_Rm 7) s m args below meth c H locs 0 0 (MQ below (q_Qi G [5, 6, 7, 9, 10, 12, 15] σ (fun r σ1 => q_V (-2147483648) 2147483647 r)) args s 0 0 (q_N G)) (F0 m 22 ls []) := by
    intro n22a
    induction n22a with
    | zero => intro _ _ _ _ _ _ _ _ _; exact fun h => absurd h (Nat.not_lt_zero _)
    | succ n22a ih22a =>
      intro ks1 H locs kx2 vkx2 ke3 hW ls hl hm22a
      refine lv_aload_n hx hb dX7_read_22 rfl (lv_at hl 0 rfl) ?_
      refine q_geti hE hW h0 rfl q_k7 5 (by decide) rfl (hE.l wl_192) dX7_read_23 (fun kx4 ekx4 vkx4 => ?_)
      obtain rfl : kx2 = kx4 := ke3.symm.trans ekx4
      refine lv_bipush (v := 20) hx hb dX7_read_26 (by decide) ?_
      refine lv_icmp_gt (tgt := 106) hx hb dX7_read_28 (by decide) (fun kc5 => ?_) (fun kc5 => ?_)
      · have kv6 : q_V 20 19 20 := (q_lt1 (q_c (k := 20) (x := 20) (by decide)) vkx2 kc5).w (by decide) (by decide)
        exact (kv6.no (by decide))
      · refine lv_aload_n hx hb dX7_read_31 rfl (lv_at hl 0 rfl) ?_
        refine q_goi hW (q_runV (As := []) (rest := []) hE hW (c_X7_readsClause l G ks1 a0 h0) kw_X7_39 (q_recv hE hW h0 rfl q_k7) rfl hl.1 rfl (Nat.le_of_ble_eq_true rfl) dX7_read_32 ⟨by decide, by decide⟩ ⟨by decide, by decide⟩) (by decide) (fun kx10 ks8 H locs kp7 kf9 hW => ?_)
        refine lv_if_ne (tgt := 43) hx hb dX7_read_35 (by decide) (fun kc11 => ?_) (fun kc11 => ?_)
        · have kv12 : q_V 1 1 kx10 := q_ne1 kp7.1 (q_c (k := 0) (x := 0) (by decide)) kc11 (by decide)
          refine lv_aload_n hx hb dX7_read_43 rfl (lv_at hl 0 rfl) ?_
          refine q_geti hE hW h0 rfl q_k7 3 (by decide) rfl (hE.l wl_193) dX7_read_44 (fun kx13 ekx13 vkx13 => ?_)
          refine lv_aload_n hx hb dX7_read_47 rfl (lv_at hl 0 rfl) ?_
          refine q_getr hE hW h0 rfl q_k7 0 (by decide) rfl (hE.l wl_105) dX7_read_48 (fun kb14 ekb14 hkb14a hkb14b => ?_)
          have hkb14 : q_T G kb14 = 13 := q_tag hkb14a hkb14b
          refine q_geti hE hW hkb14 rfl q_k8 1 (by decide) rfl (hE.n 1 rfl) dX7_read_51 (fun kx15 ekx15 vkx15 => ?_)
          refine lv_icmp_lt (tgt := 59) hx hb dX7_read_54 (by decide) (fun kc16 => ?_) (fun kc16 => ?_)
          · have kv17 : q_V (-2147483648) 2147483646 kx13 := (q_lt1 (q_all kx13) (q_all kx15) kc16).w (by decide) (by decide)
            have kv18 : q_V (-2147483647) 2147483647 kx15 := (q_lt2 (q_all kx13) (q_all kx15) kc16).w (by decide) (by decide)
            refine lv_aload_n hx hb dX7_read_59 rfl (lv_at hl 0 rfl) ?_
            refine q_getr hE hW h0 rfl q_k7 0 (by decide) rfl (hE.l wl_105) dX7_read_60 (fun kb19 ekb19 hkb19a hkb19b => ?_)
            obtain rfl : kb14 = kb19 := ekb14.symm.trans ekb19
            refine lv_aload_n hx hb dX7_read_63 rfl (lv_at hl 0 rfl) ?_
            refine q_geti hE hW h0 rfl q_k7 3 (by decide) rfl (hE.l wl_193) dX7_read_64 (fun kx20 ekx20 vkx20 => ?_)
            obtain rfl : kx13 = kx20 := ekx13.symm.trans ekx20
            refine q_goi hW (q_runV (As := [.int kx13]) (rest := []) hE hW (c_X8_at l G ks8 kb14 hkb14 kx13) kw_X7_51 (q_recv hE hW hkb14 rfl q_k8) rfl hl.1 rfl (Nat.le_of_ble_eq_true rfl) dX7_read_67 ⟨by decide, by decide⟩ ⟨by decide, by decide⟩) (by decide) (fun kx24 ks22 H locs kp21 kf23 hW => ?_)
            refine lv_bipush (v := 59) hx hb dX7_read_70 (by decide) ?_
            refine lv_icmp_ne (tgt := 84) hx hb dX7_read_72 (by decide) (fun kc25 => ?_) (fun kc25 => ?_)
            · refine lv_aload_n hx hb dX7_read_84 rfl (lv_at hl 0 rfl) ?_
              refine q_geti hE hW h0 rfl q_k7 3 (by decide) rfl (hE.l wl_193) dX7_read_85 (fun kx26 ekx26 vkx26 => ?_)
              obtain rfl : kx13 = kx26 := ((kf23.I _ h0 (by decide)).trans ekx13).symm.trans ekx26
              exact q_reti hE hr hlocks hW ((kv17.w (by decide) (by decide))) dX7_read_88
            · have kv27 : q_V 59 59 kx24 := q_eq1 kp21 (q_c (k := 59) (x := 59) (by decide)) kc25 (by decide) (by decide)
              refine lv_aload_n hx hb dX7_read_75 rfl (lv_at hl 0 rfl) ?_
              refine q_geti hE hW h0 rfl q_k7 5 (by decide) rfl (hE.l wl_192) dX7_read_76 (fun kx28 ekx28 vkx28 => ?_)
              obtain rfl : kx2 = kx28 := (((kf23.I _ h0 (by decide)).trans (kp7.2.1 5 (by decide))).trans ke3).symm.trans ekx28
              refine lv_bipush (v := 20) hx hb dX7_read_79 (by decide) ?_
              refine lv_icmp_ne (tgt := 89) hx hb dX7_read_81 (by decide) (fun kc29 => ?_) (fun kc29 => ?_)
              · have kv30 : q_V 1 19 kx2 := q_ne2 vkx2 (q_c (k := 20) (x := 20) (by decide)) kc29 (by decide)
                refine lv_aload_n hx hb dX7_read_89 rfl (lv_at hl 0 rfl) ?_
                refine q_gov hW (q_runV (As := []) (rest := []) hE hW (c_X7_step l G ks22 a0 h0) kw_X7_33 (q_recv hE hW h0 rfl q_k7) rfl hl.1 rfl (Nat.le_of_ble_eq_true rfl) dX7_read_90 ⟨by decide, by decide⟩ ⟨by decide, by decide⟩) (by decide) (fun ks32 H locs kp31 kf33 hW => ?_)
                refine lv_aload_n hx hb dX7_read_93 rfl (lv_at hl 0 rfl) ?_
                refine lv_dup hx hb dX7_read_94 rfl ?_
                refine q_geti hE hW h0 rfl q_k7 5 (by decide) rfl (hE.l wl_192) dX7_read_95 (fun kx34 ekx34 vkx34 => ?_)
                obtain rfl : kx2 = kx34 := ((((kp31.1 5 (by decide)).trans (kf23.I _ h0 (by decide))).trans (kp7.2.1 5 (by decide))).trans ke3).symm.trans ekx34
                refine lv_iconst (v := 1) hx hb dX7_read_98 (by decide) ?_
                refine lv_iadd hx hb dX7_read_99 ?_
                refine lv_topi (fun kx35 ekx35 => ?_)
                have vkx35 : q_V 2 20 kx35 := by rw [ekx35]; exact (q_add kv30 (q_c (k := 1) (x := 1) (by decide)) (by decide) (by decide)).w (by decide) (by decide)
                have ikx35 : kx35.toInt = kx2.toInt + 1 := q_incT ekx35 kv30 (by decide) (by decide) (by decide)
                refine q_puti hE hW h0 rfl q_k7 tyX7 tyX7_ok 5 (by decide) rfl (hE.l wl_192) rfl rfl rfl (vkx35.w (by decide) (by decide)) (by decide) dX7_read_100 (fun H locs ks36 kp37 hW => ?_)
                refine lv_goto (tgt := 22) hx hb dX7_read_103 (by decide) ?_
                exact ih22a _ _ _ kx35 (vkx35.w (by decide) (by decide)) kp37.1 hW ls (lv_sub hl [0] rfl) (Nat.lt_of_lt_of_le (q_up (ikx35) (show q_V 2 20 kx35 from vkx35).2) (Nat.le_of_lt_succ hm22a))
              · have kv38 : q_V 20 20 kx2 := q_eq1 vkx2 (q_c (k := 20) (x := 20) (by decide)) kc29 (by decide) (by decide)
                refine lv_aload_n hx hb dX7_read_84 rfl (lv_at hl 0 rfl) ?_
                refine q_geti hE hW h0 rfl q_k7 3 (by decide) rfl (hE.l wl_193) dX7_read_85 (fun kx39 ekx39 vkx39 => ?_)
                obtain rfl : kx13 = kx39 := ((kf23.I _ h0 (by decide)).trans ekx13).symm.trans ekx39
                exact q_reti hE hr hlocks hW ((kv17.w (by decide) (by decide))) dX7_read_88
          · refine lv_iconst (v := (-1)) hx hb dX7_read_57 (by decide) ?_
            exact q_reti hE hr hlocks hW (((q_c (k := (-1)) (x := (-1)) (by decide)).w (by decide) (by decide))) dX7_read_58
        · have kv40 : q_V 0 0 kx10 := q_eq1 kp7.1 (q_c (k := 0) (x := 0) (by decide)) kc11 (by decide) (by decide)
          refine lv_aload_n hx hb dX7_read_38 rfl (lv_at hl 0 rfl) ?_
          refine q_geti hE hW h0 rfl q_k7 3 (by decide) rfl (hE.l wl_193) dX7_read_39 (fun kx41 ekx41 vkx41 => ?_)
          exact q_reti hE hr hlocks hW ((q_all kx41)) dX7_read_42
  refine lv_aload_n hx hb dX7_read_0 rfl (lv_at hl 0 rfl) ?_
  refine q_getr hE hW h0 rfl q_k7 1 (by decide) rfl (hE.l wl_106) dX7_read_1 (fun kb42 ekb42 hkb42a hkb42b => ?_)
  have hkb42 : q_T G kb42 = 7 := q_tag hkb42a hkb42b
  refine lv_aload_n hx hb dX7_read_4 rfl (lv_at hl 1 rfl) ?_
  refine q_gov hW (q_runV (As := [.ref a1]) (rest := []) hE hW (c_X2_copyFrom l G σ kb42 hkb42 a1 h1) kw_X7_23 (q_recv hE hW hkb42 rfl q_k2) rfl hl.1 rfl (Nat.le_of_ble_eq_true rfl) dX7_read_5 ⟨by decide, by decide⟩ ⟨by decide, by decide⟩) (by decide) (fun ks44 H locs kp43 kf45 hW => ?_)
  refine lv_aload_n hx hb dX7_read_8 rfl (lv_at hl 0 rfl) ?_
  refine lv_iconst (v := 0) hx hb dX7_read_9 (by decide) ?_
  refine q_puti hE hW h0 rfl q_k7 tyX7 tyX7_ok 4 (by decide) rfl (hE.l wl_191) rfl rfl rfl ((q_c (k := 0) (x := 0) (by decide)).w (by decide) (by decide)) (by decide) dX7_read_10 (fun H locs ks46 kp47 hW => ?_)
  refine lv_aload_n hx hb dX7_read_13 rfl (lv_at hl 0 rfl) ?_
  refine q_gov hW (q_runV (As := []) (rest := []) hE hW (c_X7_step l G ks46 a0 h0) kw_X7_33 (q_recv hE hW h0 rfl q_k7) rfl hl.1 rfl (Nat.le_of_ble_eq_true rfl) dX7_read_14 ⟨by decide, by decide⟩ ⟨by decide, by decide⟩) (by decide) (fun ks49 H locs kp48 kf50 hW => ?_)
  refine lv_aload_n hx hb dX7_read_17 rfl (lv_at hl 0 rfl) ?_
  refine lv_iconst (v := 1) hx hb dX7_read_18 (by decide) ?_
  refine q_puti hE hW h0 rfl q_k7 tyX7 tyX7_ok 5 (by decide) rfl (hE.l wl_192) rfl rfl rfl ((q_c (k := 1) (x := 1) (by decide)).w (by decide) (by decide)) (by decide) dX7_read_19 (fun H locs ks51 kp52 hW => ?_)
  exact lp22a _ _ _ _ 1 ((q_c (k := 1) (x := 1) (by decide)).w (by decide) (by decide)) kp52.1 hW ls (lv_sub hl [0] rfl) (Nat.lt_succ_self _)
set_option maxHeartbeats 4000000 in
set_option maxRecDepth 100000 in
theorem c_X11_fault (l : Launch) (G : q_G) (σ : q_S) (a0 : Nat) (h0 : q_T G a0 = 26)  : Met l yX11_fault (Cond.code yX11_fault cX11_fault 1 (some .int) :: wsL_law) (q_Rm 8) (q_Pre G σ [.ref a0]) (q_Qi G [5, 6, 7, 9, 10, 12, 15] σ (fun r σ1 => q_V (-2147483648) 2147483647 r)) 0 0 (q_N G) := by
  refine q_ofW (ts := [5, 6, 7, 9, 10, 12, 15]) (by decide) (Nat.le_of_ble_eq_true rfl) ?_
  intro p e s m args below meth c hE hr hlocks hW ls hl
  have hE : q_E G p s m args c cX11_fault 1 RX11 := hE
  have hx := hE.1.1
  have hb := hE.1.2.1
  have hl : lv_has ls 1 [(0, .ref a0)] := hl
  refine lv_aload_n hx hb dX11_fault_0 rfl (lv_at hl 0 rfl) ?_
  refine q_getr hE hW h0 rfl q_k11 2 (by decide) rfl (hE.l wl_40) dX11_fault_1 (fun kb1 ekb1 hkb1a hkb1b => ?_)
  have hkb1 : q_T G kb1 = 15 := q_tag hkb1a hkb1b
  refine lv_aload_n hx hb dX11_fault_4 rfl (lv_at hl 0 rfl) ?_
  refine q_getr hE hW h0 rfl q_k11 3 (by decide) rfl (hE.l wl_33) dX11_fault_5 (fun kb2 ekb2 hkb2a hkb2b => ?_)
  have hkb2 : q_T G kb2 = 7 := q_tag hkb2a hkb2b
  refine q_goi hW (q_runV (As := [.ref kb2]) (rest := []) hE hW (c_X7_read l G σ kb1 hkb1 kb2 hkb2) kw_X11_117 (q_recv hE hW hkb1 rfl q_k7) rfl hl.1 rfl (Nat.le_of_ble_eq_true rfl) dX11_fault_8 ⟨by decide, by decide⟩ ⟨by decide, by decide⟩) (by decide) (fun kx6 ks4 H locs kp3 kf5 hW => ?_)
  exact q_reti hE hr hlocks hW ((q_all kx6)) dX11_fault_11
set_option maxHeartbeats 4000000 in
set_option maxRecDepth 100000 in
theorem c_X11_summer (l : Launch) (G : q_G) (σ : q_S) (a0 : Nat) (h0 : q_T G a0 = 26)  : Met l yX11_summer (Cond.code yX11_summer cX11_summer 2 (some .int) :: wsL_law) (q_Rm 8) (q_Pre G σ [.ref a0]) (q_Qi G [5, 6, 7, 9, 10, 12, 13, 15, 23, 26, 27, 31, 32] σ (fun r σ1 => q_V (-2147483648) 2147483647 r)) 0 0 (q_N G) := by
  refine q_ofW (ts := [5, 6, 7, 9, 10, 12, 13, 15, 23, 26, 27, 31, 32]) (by decide) (Nat.le_of_ble_eq_true rfl) ?_
  intro p e s m args below meth c hE hr hlocks hW ls hl
  have hE : q_E G p s m args c cX11_summer 2 RX11 := hE
  have hx := hE.1.1
  have hb := hE.1.2.1
  have hl : lv_has ls 2 [(0, .ref a0)] := hl
  have lp73a : ∀ (n73a : Nat) (ks2 : q_S) (H : Heap) (locs : List Loc) (kx1 : Int32) (vkx1 : q_V 0 2 kx1) (hW : q_Wd G [5, 6, 7, 9, 10, 12, 13, 15, 23, 26, 27, 31, 32] σ s.heap ks2 H locs) (ls : Array Slot) (hl : lv_has ls 2 [(0, .ref a0), (1, .int kx1)]), (2 - kx1.toInt).toNat < n73a → W p l e (q_Rm 8) s m args below meth c H locs 0 0 (MQ below (q_Qi G [5, 6, 7, 9, 10, 12, 13, 15, 23, 26, 27, 31, 32] σ (fun r σ1 => q_V (-2147483648) 2147483647 r)) args s 0 0 (q_N G)) (F0 m 73 ls []) := by
    intro n73a
    induction n73a with
    | zero => intro _ _ _ _ _ _ _ _; exact fun h => absurd h (Nat.not_lt_zero _)
    | succ n73a ih73a =>
      intro ks2 H locs kx1 vkx1 hW ls hl hm73a
      refine lv_iload_n hx hb dX11_summer_73 rfl (lv_at hl 1 rfl) ?_
      refine lv_iconst (v := 2) hx hb dX11_summer_74 (by decide) ?_
      refine lv_icmp_ge (tgt := 91) hx hb dX11_summer_75 (by decide) (fun kc3 => ?_) (fun kc3 => ?_)
      · have kv4 : q_V 2 2 kx1 := (q_le2 (q_c (k := 2) (x := 2) (by decide)) vkx1 kc3).w (by decide) (by decide)
        refine lv_aload_n hx hb dX11_summer_91 rfl (lv_at hl 0 rfl) ?_
        refine lv_iconst (v := 0) hx hb dX11_summer_92 (by decide) ?_
        refine q_puti hE hW h0 rfl q_k11 tyX11 tyX11_ok 17 (by decide) rfl (hE.l wl_434) rfl rfl rfl ((q_c (k := 0) (x := 0) (by decide)).w (by decide) (by decide)) (by decide) dX11_summer_93 (fun H locs ks5 kp6 hW => ?_)
        refine lv_aload_n hx hb dX11_summer_96 rfl (lv_at hl 0 rfl) ?_
        refine lv_iconst (v := 0) hx hb dX11_summer_97 (by decide) ?_
        refine q_puti hE hW h0 rfl q_k11 tyX11 tyX11_ok 10 (by decide) rfl (hE.l wl_435) rfl rfl rfl ((q_c (k := 0) (x := 0) (by decide)).w (by decide) (by decide)) (by decide) dX11_summer_98 (fun H locs ks7 kp8 hW => ?_)
        refine lv_aload_n hx hb dX11_summer_101 rfl (lv_at hl 0 rfl) ?_
        refine q_getr hE hW h0 rfl q_k11 2 (by decide) rfl (hE.l wl_40) dX11_summer_102 (fun kb9 ekb9 hkb9a hkb9b => ?_)
        have hkb9 : q_T G kb9 = 15 := q_tag hkb9a hkb9b
        refine q_geti hE hW hkb9 rfl q_k7 5 (by decide) rfl (hE.n 35 rfl) dX11_summer_105 (fun kx10 ekx10 vkx10 => ?_)
        exact q_reti hE hr hlocks hW ((q_all kx10)) dX11_summer_108
      · have kv11 : q_V 0 1 kx1 := (q_lt1 vkx1 (q_c (k := 2) (x := 2) (by decide)) (Int32.not_le.mp kc3)).w (by decide) (by decide)
        refine lv_aload_n hx hb dX11_summer_78 rfl (lv_at hl 0 rfl) ?_
        refine q_getr hE hW h0 rfl q_k11 13 (by decide) rfl (hE.l wl_51) dX11_summer_79 (fun kb12 ekb12 hkb12a hkb12b => ?_)
        have hkb12 : q_T G kb12 = 32 := q_tag hkb12a hkb12b
        refine lv_iload_n hx hb dX11_summer_82 rfl (lv_at hl 1 rfl) ?_
        refine lv_iconst (v := 0) hx hb dX11_summer_83 (by decide) ?_
        refine q_zast hE hW hkb12 rfl (q_in kv11 (by decide) (by decide)) (q_narz ((q_c (k := 0) (x := 0) (by decide)).w (by decide) (by decide))) ((q_c (k := 0) (x := 0) (by decide)).w (by decide) (by decide)) (by decide) dX11_summer_84 (fun H locs ks13 kp14 hW => ?_)
        obtain ⟨kx15, ekx15⟩ : ∃ y : Int32, y = kx1 + 1 := ⟨_, rfl⟩
        have vkx15 : q_V 1 2 kx15 := by rw [ekx15]; exact (q_add kv11 (q_c (k := 1) (x := 1) (by decide)) (by decide) (by decide)).w (by decide) (by decide)
        have ikx15 : kx15.toInt = kx1.toInt + 1 := q_incT ekx15 kv11 (by decide) (by decide) (by decide)
        refine lv_iinc (v := kx15) (lv' := [(1, .int kx15), (0, .ref a0)]) hx hb dX11_summer_85 hl (k := 1) rfl (by rw [ekx15]; rfl) (by decide) rfl (fun ls hl => ?_)
        refine lv_goto (tgt := 73) hx hb dX11_summer_88 (by decide) ?_
        exact ih73a _ _ _ kx15 (vkx15.w (by decide) (by decide)) hW ls (lv_sub hl [1, 0] rfl) (Nat.lt_of_lt_of_le (q_up (ikx15) (show q_V 1 2 kx15 from vkx15).2) (Nat.le_of_lt_succ hm73a))
  have lp50a : ∀ (n50a : Nat) (ks17 : q_S) (H : Heap) (locs : List Loc) (kx16 : Int32) (vkx16 : q_V 0 3 kx16) (hW : q_Wd G [5, 6, 7, 9, 10, 12, 13, 15, 23, 26, 27, 31, 32] σ s.heap ks17 H locs) (ls : Array Slot) (hl : lv_has ls 2 [(0, .ref a0), (1, .int kx16)]), (3 - kx16.toInt).toNat < n50a → W p l e (q_Rm 8) s m args below meth c H locs 0 0 (MQ below (q_Qi G [5, 6, 7, 9, 10, 12, 13, 15, 23, 26, 27, 31, 32] σ (fun r σ1 => q_V (-2147483648) 2147483647 r)) args s 0 0 (q_N G)) (F0 m 50 ls []) := by
    intro n50a
    induction n50a with
    | zero => intro _ _ _ _ _ _ _ _; exact fun h => absurd h (Nat.not_lt_zero _)
    | succ n50a ih50a =>
      intro ks17 H locs kx16 vkx16 hW ls hl hm50a
      refine lv_iload_n hx hb dX11_summer_50 rfl (lv_at hl 1 rfl) ?_
      refine lv_iconst (v := 3) hx hb dX11_summer_51 (by decide) ?_
      refine lv_icmp_ge (tgt := 71) hx hb dX11_summer_52 (by decide) (fun kc18 => ?_) (fun kc18 => ?_)
      · have kv19 : q_V 3 3 kx16 := (q_le2 (q_c (k := 3) (x := 3) (by decide)) vkx16 kc18).w (by decide) (by decide)
        refine lv_iconst (v := 0) hx hb dX11_summer_71 (by decide) ?_
        refine lv_istore_n (lv' := [(1, .int 0), (0, .ref a0)]) hx hb dX11_summer_72 rfl hl (by decide) rfl (fun ls hl => ?_)
        exact lp73a _ _ _ _ 0 ((q_c (k := 0) (x := 0) (by decide)).w (by decide) (by decide)) hW ls (lv_sub hl [1, 0] rfl) (Nat.lt_succ_self _)
      · have kv20 : q_V 0 2 kx16 := (q_lt1 vkx16 (q_c (k := 3) (x := 3) (by decide)) (Int32.not_le.mp kc18)).w (by decide) (by decide)
        refine lv_aload_n hx hb dX11_summer_55 rfl (lv_at hl 0 rfl) ?_
        refine q_getr hE hW h0 rfl q_k11 18 (by decide) rfl (hE.l wl_56) dX11_summer_56 (fun kb21 ekb21 hkb21a hkb21b => ?_)
        have hkb21 : q_T G kb21 = 36 := q_tag hkb21a hkb21b
        refine lv_iload_n hx hb dX11_summer_59 rfl (lv_at hl 1 rfl) ?_
        refine q_aald hE hW hkb21 rfl (q_in kv20 (by decide) (by decide)) dX11_summer_60 (fun kb22 ekb22 hkb22a hkb22b => ?_)
        have hkb22 : q_T G kb22 = 23 := q_tag hkb22a hkb22b
        refine lv_iconst (v := 0) hx hb dX11_summer_61 (by decide) ?_
        refine q_puti hE hW hkb22 rfl q_k5 tyX5 tyX5_ok 0 (by decide) rfl (hE.n 37 rfl) rfl rfl rfl ((q_c (k := 0) (x := 0) (by decide)).w (by decide) (by decide)) (by decide) dX11_summer_62 (fun H locs ks23 kp24 hW => ?_)
        obtain ⟨kx25, ekx25⟩ : ∃ y : Int32, y = kx16 + 1 := ⟨_, rfl⟩
        have vkx25 : q_V 1 3 kx25 := by rw [ekx25]; exact (q_add kv20 (q_c (k := 1) (x := 1) (by decide)) (by decide) (by decide)).w (by decide) (by decide)
        have ikx25 : kx25.toInt = kx16.toInt + 1 := q_incT ekx25 kv20 (by decide) (by decide) (by decide)
        refine lv_iinc (v := kx25) (lv' := [(1, .int kx25), (0, .ref a0)]) hx hb dX11_summer_65 hl (k := 1) rfl (by rw [ekx25]; rfl) (by decide) rfl (fun ls hl => ?_)
        refine lv_goto (tgt := 50) hx hb dX11_summer_68 (by decide) ?_
        exact ih50a _ _ _ kx25 (vkx25.w (by decide) (by decide)) hW ls (lv_sub hl [1, 0] rfl) (Nat.lt_of_lt_of_le (q_up (ikx25) (show q_V 1 3 kx25 from vkx25).2) (Nat.le_of_lt_succ hm50a))
  refine lv_aload_n hx hb dX11_summer_0 rfl (lv_at hl 0 rfl) ?_
  refine q_getr hE hW h0 rfl q_k11 2 (by decide) rfl (hE.l wl_40) dX11_summer_1 (fun kb26 ekb26 hkb26a hkb26b => ?_)
  have hkb26 : q_T G kb26 = 15 := q_tag hkb26a hkb26b
  refine lv_aload_n hx hb dX11_summer_4 rfl (lv_at hl 0 rfl) ?_
  refine q_getr hE hW h0 rfl q_k11 3 (by decide) rfl (hE.l wl_33) dX11_summer_5 (fun kb27 ekb27 hkb27a hkb27b => ?_)
  have hkb27 : q_T G kb27 = 7 := q_tag hkb27a hkb27b
  refine q_goi hW (q_runV (As := [.ref kb27]) (rest := []) hE hW (c_X7_read l G σ kb26 hkb26 kb27 hkb27) kw_X11_117 (q_recv hE hW hkb26 rfl q_k7) rfl hl.1 rfl (Nat.le_of_ble_eq_true rfl) dX11_summer_8 ⟨by decide, by decide⟩ ⟨by decide, by decide⟩) (by decide) (fun kx31 ks29 H locs kp28 kf30 hW => ?_)
  refine lv_iconst (v := (-1)) hx hb dX11_summer_11 (by decide) ?_
  refine lv_icmp_eq (tgt := 18) hx hb dX11_summer_12 (by decide) (fun kc32 => ?_) (fun kc32 => ?_)
  · have kv33 : q_V (-1) (-1) kx31 := q_eq1 (q_all kx31) (q_c (k := (-1)) (x := (-1)) (by decide)) kc32 (by decide) (by decide)
    refine lv_aload_n hx hb dX11_summer_18 rfl (lv_at hl 0 rfl) ?_
    refine q_getr hE hW h0 rfl q_k11 3 (by decide) rfl (hE.l wl_33) dX11_summer_19 (fun kb34 ekb34 hkb34a hkb34b => ?_)
    obtain rfl : kb27 = kb34 := ((kf30.R _ h0 (by decide)).trans ekb27).symm.trans ekb34
    refine lv_aload_n hx hb dX11_summer_22 rfl (lv_at hl 0 rfl) ?_
    refine q_getr hE hW h0 rfl q_k11 4 (by decide) rfl (hE.l wl_34) dX11_summer_23 (fun kb35 ekb35 hkb35a hkb35b => ?_)
    have hkb35 : q_T G kb35 = 7 := q_tag hkb35a hkb35b
    refine q_gov hW (q_runV (As := [.ref kb35]) (rest := []) hE hW (c_X2_copyFrom l G ks29 kb27 hkb27 kb35 hkb35) kw_X11_121 (q_recv hE hW hkb27 rfl q_k2) rfl hl.1 rfl (Nat.le_of_ble_eq_true rfl) dX11_summer_26 ⟨by decide, by decide⟩ ⟨by decide, by decide⟩) (by decide) (fun ks37 H locs kp36 kf38 hW => ?_)
    refine lv_aload_n hx hb dX11_summer_29 rfl (lv_at hl 0 rfl) ?_
    refine q_getr hE hW h0 rfl q_k11 5 (by decide) rfl (hE.l wl_35) dX11_summer_30 (fun kb39 ekb39 hkb39a hkb39b => ?_)
    have hkb39 : q_T G kb39 = 7 := q_tag hkb39a hkb39b
    refine lv_aload_n hx hb dX11_summer_33 rfl (lv_at hl 0 rfl) ?_
    refine q_getr hE hW h0 rfl q_k11 3 (by decide) rfl (hE.l wl_33) dX11_summer_34 (fun kb40 ekb40 hkb40a hkb40b => ?_)
    obtain rfl : kb27 = kb40 := (((kf38.R _ h0 (by decide)).trans (kf30.R _ h0 (by decide))).trans ekb27).symm.trans ekb40
    refine q_gov hW (q_runV (As := [.ref kb27]) (rest := []) hE hW (c_X2_copyFrom l G ks37 kb39 hkb39 kb27 hkb27) kw_X11_121 (q_recv hE hW hkb39 rfl q_k2) rfl hl.1 rfl (Nat.le_of_ble_eq_true rfl) dX11_summer_37 ⟨by decide, by decide⟩ ⟨by decide, by decide⟩) (by decide) (fun ks42 H locs kp41 kf43 hW => ?_)
    refine lv_aload_n hx hb dX11_summer_40 rfl (lv_at hl 0 rfl) ?_
    refine q_getr hE hW h0 rfl q_k11 1 (by decide) rfl (hE.l wl_29) dX11_summer_41 (fun kb44 ekb44 hkb44a hkb44b => ?_)
    have hkb44 : q_T G kb44 = 13 := q_tag hkb44a hkb44b
    refine lv_iconst (v := 0) hx hb dX11_summer_44 (by decide) ?_
    refine q_puti hE hW hkb44 rfl q_k8 tyX8 tyX8_ok 1 (by decide) rfl (hE.n 0 rfl) rfl rfl rfl ((q_c (k := 0) (x := 0) (by decide)).w (by decide) (by decide)) (by decide) dX11_summer_45 (fun H locs ks45 kp46 hW => ?_)
    refine lv_iconst (v := 0) hx hb dX11_summer_48 (by decide) ?_
    refine lv_istore_n (lv' := [(1, .int 0), (0, .ref a0)]) hx hb dX11_summer_49 rfl hl (by decide) rfl (fun ls hl => ?_)
    exact lp50a _ _ _ _ 0 ((q_c (k := 0) (x := 0) (by decide)).w (by decide) (by decide)) hW ls (lv_sub hl [1, 0] rfl) (Nat.lt_succ_self _)
  · refine lv_bipush (v := (-4)) hx hb dX11_summer_15 (by decide) ?_
    exact q_reti hE hr hlocks hW (((q_c (k := (-4)) (x := (-4)) (by decide)).w (by decide) (by decide))) dX11_summer_17
set_option maxHeartbeats 4000000 in
set_option maxRecDepth 100000 in
theorem c_X11_choices (l : Launch) (G : q_G) (σ : q_S) (i1 : Int32) (w1 : q_V 0 8 i1) (i2 : Int32) (w2 : q_V 0 8 i2)  : Met l yX11_choices (Cond.code yX11_choices cX11_choices 5 (some .long) :: wsL_law) (q_Rm 1) (q_Pre G σ [.int i1, .int i2]) (q_Ql G [] σ (fun r σ1 => r = kch i1 i2 i2.toInt.toNat)) 0 0 (q_N G) := by
  refine q_ofW (ts := []) (by decide) (Nat.le_of_ble_eq_true rfl) ?_
  intro p e s m args below meth c hE hr hlocks hW ls hl
  have hE : q_E G p s m args c cX11_choices 5 RX11 := hE
  have hx := hE.1.1
  have hb := hE.1.2.1
  have hl : lv_has ls 5 [(0, .int i1), (1, .int i2)] := hl
  have lp5a : ∀ (n5a : Nat) (ky1 : Int64) (kx2 : Int32) (vkx2 : q_V 1 9 kx2) (iv5a0 : (ky1 : Int64) = kch i1 i2 ((kx2 : Int32).toInt.toNat - 1)) (iv5a1 : (kx2 : Int32).toInt ≤ i2.toInt + 1) (ls : Array Slot) (hl : lv_has ls 5 [(0, .int i1), (1, .int i2), (2, .long ky1), (4, .int kx2)]), (9 - kx2.toInt).toNat < n5a → W p l e (q_Rm 1) s m args below meth c s.heap [] 0 0 (MQ below (q_Ql G [] σ (fun r σ1 => r = kch i1 i2 i2.toInt.toNat)) args s 0 0 (q_N G)) (F0 m 5 ls []) := by
    intro n5a
    induction n5a with
    | zero => intro _ _ _ _ _ _ _; exact fun h => absurd h (Nat.not_lt_zero _)
    | succ n5a ih5a =>
      intro ky1 kx2 vkx2 iv5a0 iv5a1 ls hl hm5a
      refine lv_iload hx hb dX11_choices_5 (lv_at hl 3 rfl) ?_
      refine lv_iload_n hx hb dX11_choices_7 rfl (lv_at hl 1 rfl) ?_
      refine lv_icmp_gt (tgt := 31) hx hb dX11_choices_8 (by decide) (fun kc3 => ?_) (fun kc3 => ?_)
      · refine lv_lload_n hx hb dX11_choices_31 rfl (lv_at hl 2 rfl) ?_
        exact q_retl hE hr hlocks hW ((by have := Int32.lt_iff_toInt_lt.mp kc3; have := w2.1; rw [show i2.toInt.toNat = kx2.toInt.toNat - 1 by omega]; exact iv5a0)) dX11_choices_32
      · have kv4 : q_V 1 8 kx2 := (q_le1 vkx2 w2 (Int32.not_lt.mp kc3)).w (by decide) (by decide)
        have kv5 : q_V 1 8 i2 := (q_le2 vkx2 w2 (Int32.not_lt.mp kc3)).w (by decide) (by decide)
        refine lv_lload_n hx hb dX11_choices_11 rfl (lv_at hl 2 rfl) ?_
        refine lv_iload_n hx hb dX11_choices_12 rfl (lv_at hl 0 rfl) ?_
        refine lv_iload_n hx hb dX11_choices_13 rfl (lv_at hl 1 rfl) ?_
        refine lv_isub hx hb dX11_choices_14 ?_
        refine lv_topi (fun kx6 ekx6 => ?_)
        have vkx6 : q_V (-8) 7 kx6 := by rw [ekx6]; exact (q_sub w1 kv5 (by decide) (by decide)).w (by decide) (by decide)
        refine lv_iload hx hb dX11_choices_15 (lv_at hl 3 rfl) ?_
        refine lv_iadd hx hb dX11_choices_17 ?_
        refine lv_topi (fun kx7 ekx7 => ?_)
        have vkx7 : q_V (-7) 15 kx7 := by rw [ekx7]; exact (q_add vkx6 kv4 (by decide) (by decide)).w (by decide) (by decide)
        refine lv_i2l (v := kx7.toInt64) hx hb dX11_choices_18 rfl ?_
        refine lv_lmul hx hb dX11_choices_19 ?_
        refine lv_topl (fun ky8 eky8 => ?_)
        refine lv_iload hx hb dX11_choices_20 (lv_at hl 3 rfl) ?_
        refine lv_i2l (v := kx2.toInt64) hx hb dX11_choices_22 rfl ?_
        refine lv_ldiv hx hb dX11_choices_23 (q_ln0 (q_l kv4) (by decide)) ?_
        refine lv_topl (fun ky9 eky9 => ?_)
        refine lv_lstore_n (lv' := [(2, .long ky9), (0, .int i1), (1, .int i2), (4, .int kx2)]) hx hb dX11_choices_24 rfl hl (by decide) rfl (fun ls hl => ?_)
        obtain ⟨kx10, ekx10⟩ : ∃ y : Int32, y = kx2 + 1 := ⟨_, rfl⟩
        have vkx10 : q_V 2 9 kx10 := by rw [ekx10]; exact (q_add kv4 (q_c (k := 1) (x := 1) (by decide)) (by decide) (by decide)).w (by decide) (by decide)
        have ikx10 : kx10.toInt = kx2.toInt + 1 := q_incT ekx10 kv4 (by decide) (by decide) (by decide)
        refine lv_iinc (v := kx10) (lv' := [(4, .int kx10), (2, .long ky9), (0, .int i1), (1, .int i2)]) hx hb dX11_choices_25 hl (k := 3) rfl (by rw [ekx10]; rfl) (by decide) rfl (fun ls hl => ?_)
        refine lv_goto (tgt := 5) hx hb dX11_choices_28 (by decide) ?_
        exact ih5a ky9 kx10 (vkx10.w (by decide) (by decide)) (by rw [eky9, eky8, ekx7, ekx6]; exact kch_step iv5a0 kv4 (by decide) ikx10) (by have := Int32.le_iff_toInt_le.mp (Int32.not_lt.mp kc3); omega) ls (lv_sub hl [2, 3, 1, 0] rfl) (Nat.lt_of_lt_of_le (q_up (ikx10) (show q_V 2 9 kx10 from vkx10).2) (Nat.le_of_lt_succ hm5a))
  refine lv_lconst (v := 1) hx hb dX11_choices_0 (by decide) ?_
  refine lv_lstore_n (lv' := [(2, .long 1), (0, .int i1), (1, .int i2)]) hx hb dX11_choices_1 rfl hl (by decide) rfl (fun ls hl => ?_)
  refine lv_iconst (v := 1) hx hb dX11_choices_2 (by decide) ?_
  refine lv_istore (lv' := [(4, .int 1), (2, .long 1), (0, .int i1), (1, .int i2)]) hx hb dX11_choices_3 hl (by decide) rfl (fun ls hl => ?_)
  exact lp5a _ 1 1 ((q_c (k := 1) (x := 1) (by decide)).w (by decide) (by decide)) (by rfl) (show (1 : Int) ≤ i2.toInt + 1 by have := w2.1; omega) ls (lv_sub hl [2, 3, 1, 0] rfl) (Nat.lt_succ_self _)
set_option maxHeartbeats 4000000 in
set_option maxRecDepth 100000 in
theorem c_X11_power (l : Launch) (G : q_G) (σ : q_S) (i1 : Int32) (i2 : Int32) (w2 : q_V 0 9 i2)  : Met l yX11_power (Cond.code yX11_power cX11_power 5 (some .long) :: wsL_law) (q_Rm 1) (q_Pre G σ [.int i1, .int i2]) (q_Ql G [] σ (fun r σ1 => r = kpw i1.toInt64 i2.toInt.toNat)) 0 0 (q_N G) := by
  refine q_ofW (ts := []) (by decide) (Nat.le_of_ble_eq_true rfl) ?_
  intro p e s m args below meth c hE hr hlocks hW ls hl
  have hE : q_E G p s m args c cX11_power 5 RX11 := hE
  have hx := hE.1.1
  have hb := hE.1.2.1
  have hl : lv_has ls 5 [(0, .int i1), (1, .int i2)] := hl
  have lp5a : ∀ (n5a : Nat) (ky1 : Int64) (kx2 : Int32) (vkx2 : q_V 0 9 kx2) (iv5a0 : (ky1 : Int64) = kpw i1.toInt64 (kx2 : Int32).toInt.toNat) (iv5a1 : (kx2 : Int32).toInt ≤ i2.toInt) (ls : Array Slot) (hl : lv_has ls 5 [(0, .int i1), (1, .int i2), (2, .long ky1), (4, .int kx2)]), (9 - kx2.toInt).toNat < n5a → W p l e (q_Rm 1) s m args below meth c s.heap [] 0 0 (MQ below (q_Ql G [] σ (fun r σ1 => r = kpw i1.toInt64 i2.toInt.toNat)) args s 0 0 (q_N G)) (F0 m 5 ls []) := by
    intro n5a
    induction n5a with
    | zero => intro _ _ _ _ _ _ _; exact fun h => absurd h (Nat.not_lt_zero _)
    | succ n5a ih5a =>
      intro ky1 kx2 vkx2 iv5a0 iv5a1 ls hl hm5a
      refine lv_iload hx hb dX11_power_5 (lv_at hl 3 rfl) ?_
      refine lv_iload_n hx hb dX11_power_7 rfl (lv_at hl 1 rfl) ?_
      refine lv_icmp_ge (tgt := 22) hx hb dX11_power_8 (by decide) (fun kc3 => ?_) (fun kc3 => ?_)
      · refine lv_lload_n hx hb dX11_power_22 rfl (lv_at hl 2 rfl) ?_
        exact q_retl hE hr hlocks hW ((by have := Int32.le_iff_toInt_le.mp kc3; rw [show i2.toInt.toNat = kx2.toInt.toNat by omega]; exact iv5a0)) dX11_power_23
      · have kv4 : q_V 0 8 kx2 := (q_lt1 vkx2 w2 (Int32.not_le.mp kc3)).w (by decide) (by decide)
        have kv5 : q_V 1 9 i2 := (q_lt2 vkx2 w2 (Int32.not_le.mp kc3)).w (by decide) (by decide)
        refine lv_lload_n hx hb dX11_power_11 rfl (lv_at hl 2 rfl) ?_
        refine lv_iload_n hx hb dX11_power_12 rfl (lv_at hl 0 rfl) ?_
        refine lv_i2l (v := i1.toInt64) hx hb dX11_power_13 rfl ?_
        refine lv_lmul hx hb dX11_power_14 ?_
        refine lv_topl (fun ky6 eky6 => ?_)
        refine lv_lstore_n (lv' := [(2, .long ky6), (0, .int i1), (1, .int i2), (4, .int kx2)]) hx hb dX11_power_15 rfl hl (by decide) rfl (fun ls hl => ?_)
        obtain ⟨kx7, ekx7⟩ : ∃ y : Int32, y = kx2 + 1 := ⟨_, rfl⟩
        have vkx7 : q_V 1 9 kx7 := by rw [ekx7]; exact (q_add kv4 (q_c (k := 1) (x := 1) (by decide)) (by decide) (by decide)).w (by decide) (by decide)
        have ikx7 : kx7.toInt = kx2.toInt + 1 := q_incT ekx7 kv4 (by decide) (by decide) (by decide)
        refine lv_iinc (v := kx7) (lv' := [(4, .int kx7), (2, .long ky6), (0, .int i1), (1, .int i2)]) hx hb dX11_power_16 hl (k := 3) rfl (by rw [ekx7]; rfl) (by decide) rfl (fun ls hl => ?_)
        refine lv_goto (tgt := 5) hx hb dX11_power_19 (by decide) ?_
        exact ih5a ky6 kx7 (vkx7.w (by decide) (by decide)) (by rw [eky6]; exact kpw_step iv5a0 kv4 (by decide) ikx7) (by have := Int32.lt_iff_toInt_lt.mp (Int32.not_le.mp kc3); omega) ls (lv_sub hl [2, 3, 1, 0] rfl) (Nat.lt_of_lt_of_le (q_up (ikx7) (show q_V 1 9 kx7 from vkx7).2) (Nat.le_of_lt_succ hm5a))
  refine lv_lconst (v := 1) hx hb dX11_power_0 (by decide) ?_
  refine lv_lstore_n (lv' := [(2, .long 1), (0, .int i1), (1, .int i2)]) hx hb dX11_power_1 rfl hl (by decide) rfl (fun ls hl => ?_)
  refine lv_iconst (v := 0) hx hb dX11_power_2 (by decide) ?_
  refine lv_istore (lv' := [(4, .int 0), (2, .long 1), (0, .int i1), (1, .int i2)]) hx hb dX11_power_3 hl (by decide) rfl (fun ls hl => ?_)
  exact lp5a _ 1 0 ((q_c (k := 0) (x := 0) (by decide)).w (by decide) (by decide)) (by rfl) (show (0 : Int) ≤ i2.toInt by have := w2.1; omega) ls (lv_sub hl [2, 3, 1, 0] rfl) (Nat.lt_succ_self _)
set_option maxHeartbeats 4000000 in
set_option maxRecDepth 100000 in
theorem c_X11_commonDivisor (l : Launch) (G : q_G) (σ : q_S) (j1 : Int64) (j2 : Int64)  : Met l yX11_commonDivisor (Cond.code yX11_commonDivisor cX11_commonDivisor 11 (some .long) :: wsL_law) (q_Rm 1) (q_Pre G σ [.long j1, .long j2]) (q_Ql G [] σ (fun r σ1 => r = kgc 100 j1 j2)) 0 0 (q_N G) := by
  refine q_ofW (ts := []) (by decide) (Nat.le_of_ble_eq_true rfl) ?_
  intro p e s m args below meth c hE hr hlocks hW ls hl
  have hE : q_E G p s m args c cX11_commonDivisor 11 RX11 := hE
  have hx := hE.1.1
  have hb := hE.1.2.1
  have hl : lv_has ls 11 [(0, .long j1), (2, .long j2)] := hl
  have lp9a : ∀ (n9a : Nat) (ky1 : Int64) (ky2 : Int64) (kx3 : Int32) (vkx3 : q_V 0 100 kx3) (iv9a0 : kgc (100 - (kx3 : Int32).toInt.toNat) (ky1 : Int64) (ky2 : Int64) = kgc 100 j1 j2) (ls : Array Slot) (hl : lv_has ls 11 [(4, .long ky1), (6, .long ky2), (8, .int kx3)]), (100 - kx3.toInt).toNat < n9a → W p l e (q_Rm 1) s m args below meth c s.heap [] 0 0 (MQ below (q_Ql G [] σ (fun r σ1 => r = kgc 100 j1 j2)) args s 0 0 (q_N G)) (F0 m 9 ls []) := by
    intro n9a
    induction n9a with
    | zero => intro _ _ _ _ _ _ _; exact fun h => absurd h (Nat.not_lt_zero _)
    | succ n9a ih9a =>
      intro ky1 ky2 kx3 vkx3 iv9a0 ls hl hm9a
      refine lv_iload hx hb dX11_commonDivisor_9 (lv_at hl 2 rfl) ?_
      refine lv_bipush (v := 100) hx hb dX11_commonDivisor_11 (by decide) ?_
      refine lv_icmp_ge (tgt := 44) hx hb dX11_commonDivisor_13 (by decide) (fun kc4 => ?_) (fun kc4 => ?_)
      · have kv5 : q_V 100 100 kx3 := (q_le2 (q_c (k := 100) (x := 100) (by decide)) vkx3 kc4).w (by decide) (by decide)
        refine lv_lload hx hb dX11_commonDivisor_44 (lv_at hl 0 rfl) ?_
        exact q_retl hE hr hlocks hW ((by have q_a := Int32.le_iff_toInt_le.mp kc4; have q_b : (100 : Int32).toInt = 100 := (by decide); rw [← iv9a0, show 100 - kx3.toInt.toNat = 0 by omega]; rfl)) dX11_commonDivisor_46
      · have kv6 : q_V 0 99 kx3 := (q_lt1 vkx3 (q_c (k := 100) (x := 100) (by decide)) (Int32.not_le.mp kc4)).w (by decide) (by decide)
        refine lv_lload hx hb dX11_commonDivisor_16 (lv_at hl 1 rfl) ?_
        refine lv_lconst (v := 0) hx hb dX11_commonDivisor_18 (by decide) ?_
        refine W.lcmp hx hb dX11_commonDivisor_19 ?_
        refine lv_topi (fun kx7 ekx7 => ?_)
        refine lv_if_le (tgt := 44) hx hb dX11_commonDivisor_20 (by decide) (fun kc8 => ?_) (fun kc8 => ?_)
        · have kr9 : (ky2 : Int64) ≤ (0 : Int64) := (lg_cmp_le (ky2 : Int64) (0 : Int64)).mp (by rw [← ekx7]; exact kc8)
          have kv10 : q_V (-2147483648) 0 kx7 := (q_le1 (q_all kx7) (q_c (k := 0) (x := 0) (by decide)) kc8).w (by decide) (by decide)
          refine lv_lload hx hb dX11_commonDivisor_44 (lv_at hl 0 rfl) ?_
          exact q_retl hE hr hlocks hW ((by rw [← iv9a0, kgc_stop kr9])) dX11_commonDivisor_46
        · have kr11 : (0 : Int64) < (ky2 : Int64) := (lg_cmp_gt (ky2 : Int64) (0 : Int64)).mp (by rw [← ekx7]; exact (Int32.not_le.mp kc8))
          have kv12 : q_V 1 2147483647 kx7 := (q_lt2 (q_c (k := 0) (x := 0) (by decide)) (q_all kx7) (Int32.not_le.mp kc8)).w (by decide) (by decide)
          refine lv_lload hx hb dX11_commonDivisor_23 (lv_at hl 0 rfl) ?_
          refine lv_lload hx hb dX11_commonDivisor_25 (lv_at hl 1 rfl) ?_
          refine lv_lrem hx hb dX11_commonDivisor_27 (q_ln1 kr11) ?_
          refine lv_topl (fun ky13 eky13 => ?_)
          refine lv_lstore (lv' := [(9, .long ky13), (4, .long ky1), (6, .long ky2), (8, .int kx3)]) hx hb dX11_commonDivisor_28 hl (by decide) rfl (fun ls hl => ?_)
          refine lv_lload hx hb dX11_commonDivisor_30 (lv_at hl 2 rfl) ?_
          refine lv_lstore (lv' := [(4, .long ky2), (9, .long ky13), (6, .long ky2), (8, .int kx3)]) hx hb dX11_commonDivisor_32 hl (by decide) rfl (fun ls hl => ?_)
          refine lv_lload hx hb dX11_commonDivisor_34 (lv_at hl 1 rfl) ?_
          refine lv_lstore (lv' := [(6, .long ky13), (4, .long ky2), (9, .long ky13), (8, .int kx3)]) hx hb dX11_commonDivisor_36 hl (by decide) rfl (fun ls hl => ?_)
          obtain ⟨kx14, ekx14⟩ : ∃ y : Int32, y = kx3 + 1 := ⟨_, rfl⟩
          have vkx14 : q_V 1 100 kx14 := by rw [ekx14]; exact (q_add kv6 (q_c (k := 1) (x := 1) (by decide)) (by decide) (by decide)).w (by decide) (by decide)
          have ikx14 : kx14.toInt = kx3.toInt + 1 := q_incT ekx14 kv6 (by decide) (by decide) (by decide)
          refine lv_iinc (v := kx14) (lv' := [(8, .int kx14), (6, .long ky13), (4, .long ky2), (9, .long ky13)]) hx hb dX11_commonDivisor_38 hl (k := 3) rfl (by rw [ekx14]; rfl) (by decide) rfl (fun ls hl => ?_)
          refine lv_goto (tgt := 9) hx hb dX11_commonDivisor_41 (by decide) ?_
          exact ih9a ky2 ky13 kx14 (vkx14.w (by decide) (by decide)) (by have q_a := kv6.1; have q_b := kv6.2; rw [← iv9a0, show 100 - kx3.toInt.toNat = (100 - kx14.toInt.toNat) + 1 from (by omega), kgc_step kr11, eky13]) ls (lv_sub hl [2, 1, 0] rfl) (Nat.lt_of_lt_of_le (q_up (ikx14) (show q_V 1 100 kx14 from vkx14).2) (Nat.le_of_lt_succ hm9a))
  refine lv_lload_n hx hb dX11_commonDivisor_0 rfl (lv_at hl 0 rfl) ?_
  refine lv_lstore (lv' := [(4, .long j1), (0, .long j1), (2, .long j2)]) hx hb dX11_commonDivisor_1 hl (by decide) rfl (fun ls hl => ?_)
  refine lv_lload_n hx hb dX11_commonDivisor_3 rfl (lv_at hl 2 rfl) ?_
  refine lv_lstore (lv' := [(6, .long j2), (4, .long j1), (0, .long j1), (2, .long j2)]) hx hb dX11_commonDivisor_4 hl (by decide) rfl (fun ls hl => ?_)
  refine lv_iconst (v := 0) hx hb dX11_commonDivisor_6 (by decide) ?_
  refine lv_istore (lv' := [(8, .int 0), (6, .long j2), (4, .long j1), (0, .long j1), (2, .long j2)]) hx hb dX11_commonDivisor_7 hl (by decide) rfl (fun ls hl => ?_)
  exact lp9a _ j1 j2 0 ((q_c (k := 0) (x := 0) (by decide)).w (by decide) (by decide)) (by rfl) ls (lv_sub hl [2, 1, 0] rfl) (Nat.lt_succ_self _)
