theorem kw_X6_37 : q_wS RX6 37 yJ7_fill_53178 cJ7_fill_53178 4 none 2 := ⟨⟨wl_835, wl_98, wl_99, wl_100⟩, by decide, by decide, by decide +kernel⟩
theorem kw_X7_55 : q_wS RX7 55 yX7_sortOf cX7_sortOf 1 (some .int) 1 := ⟨⟨wl_223, wl_224, wl_39, wl_225⟩, by decide, by decide, by decide +kernel⟩
theorem kw_X11_241 : q_wV RX11 RX6 241 yX6_make cX6_make 3 none 0 := ⟨q_goodV wl_830 wl_831 wl_832 wl_43 wl_833, rfl, by decide, by decide, by decide +kernel⟩
theorem kw_X11_247 : q_wV RX11 RX6 247 yX6_washerFor cX6_washerFor 2 (some .int) 1 := ⟨q_goodV wl_863 wl_864 wl_865 wl_43 wl_866, rfl, by decide, by decide, by decide +kernel⟩
theorem kw_X6_43 : q_wV RX6 RX6 43 yX6_sortByDue cX6_sortByDue 3 none 0 := ⟨q_goodV wl_836 wl_837 wl_838 wl_43 wl_839, rfl, by decide, by decide, by decide +kernel⟩
theorem kw_X6_67 : q_wV RX6 RX1 67 yX1_hoursAs cX1_hoursAs 6 (some .int) 2 := ⟨q_goodV wl_845 wl_750 wl_751 wl_85 wl_752, rfl, by decide, by decide, by decide +kernel⟩
theorem kw_X6_71 : q_wV RX6 RX6 71 yX6_share cX6_share 5 none 2 := ⟨q_goodV wl_846 wl_847 wl_848 wl_43 wl_849, rfl, by decide, by decide, by decide +kernel⟩
theorem kw_X6_95 : q_wV RX6 RX6 95 yX6_isInTime cX6_isInTime 6 (some .boolean) 1 := ⟨q_goodV wl_851 wl_852 wl_853 wl_43 wl_854, rfl, by decide, by decide, by decide +kernel⟩
theorem kw_X7_33 : q_wV RX7 RX7 33 yX7_step cX7_step 2 none 0 := ⟨q_goodV wl_215 wl_216 wl_217 wl_39 wl_218, rfl, by decide, by decide, by decide +kernel⟩
theorem kw_X7_51 : q_wV RX7 RX8 51 yX8_at cX8_at 2 (some .char) 1 := ⟨q_goodV wl_219 wl_220 wl_221 wl_28 wl_222, rfl, by decide, by decide, by decide +kernel⟩
theorem kw_X7_109 : q_wV RX7 RX7 109 yX7_number cX7_number 6 (some .int) 2 := ⟨q_goodV wl_291 wl_292 wl_293 wl_39 wl_294, rfl, by decide, by decide, by decide +kernel⟩
theorem kw_X7_113 : q_wV RX7 RX2 113 yX2_addCloud cX2_addCloud 4 none 3 := ⟨q_goodV wl_333 wl_334 wl_335 wl_32 wl_336, rfl, by decide, by decide, by decide +kernel⟩
theorem kw_X7_117 : q_wV RX7 RX2 117 yX2_cloudAt cX2_cloudAt 2 (some (.object "CloudLaundry$Cloud")) 1 := ⟨q_goodV wl_295 wl_296 wl_297 wl_32 wl_298, rfl, by decide, by decide, by decide +kernel⟩
theorem kw_X7_130 : q_wV RX7 RX2 130 yX2_addWasher cX2_addWasher 2 none 1 := ⟨q_goodV wl_303 wl_304 wl_305 wl_32 wl_306, rfl, by decide, by decide, by decide +kernel⟩
set_option maxHeartbeats 4000000 in
set_option maxRecDepth 100000 in
theorem c_X6_share_t6 (l : Launch) (G : q_G) (σ : q_S) (a0 : Nat) (h0 : q_T G a0 = 16) (i1 : Int32) (w1 : q_V 6 6 i1) (i2 : Int32)  : Met l yX6_share (Cond.code yX6_share cX6_share 5 none :: wsL_law) (q_Rm 4) (q_Pre G σ [.ref a0, .int i1, .int i2]) (q_Qv G [16, 18, 19, 20] σ (fun σ1 => True)) 0 0 (q_N G) := by
  refine q_ofW (ts := [16, 18, 19, 20]) (by decide) (Nat.le_of_ble_eq_true rfl) ?_
  intro p e s m args below meth c hE hr hlocks hW ls hl
  have hE : q_E G p s m args c cX6_share 5 RX6 := hE
  have hx := hE.1.1
  have hb := hE.1.2.1
  have hl : lv_has ls 5 [(0, .ref a0), (1, .int i1), (2, .int i2)] := hl
  have jn21a : ∀ (ks1 : q_S) (H : Heap) (locs : List Loc) (hW : q_Wd G [16, 18, 19, 20] σ s.heap ks1 H locs) (ls : Array Slot) (hl : lv_has ls 5 [(0, .ref a0), (2, .int i2)]), W p l e (q_Rm 4) s m args below meth c H locs 0 0 (MQ below (q_Qv G [16, 18, 19, 20] σ (fun σ1 => True)) args s 0 0 (q_N G)) (F0 m 21 ls []) := by
    intro ks1 H locs hW ls hl
    refine lv_iload_n hx hb dX6_share_21 rfl (lv_at hl 1 rfl) ?_
    refine lv_aload_n hx hb dX6_share_22 rfl (lv_at hl 0 rfl) ?_
    refine q_geti hE hW h0 rfl q_k6 6 (by decide) rfl (hE.l wl_834) dX6_share_23 (fun kx2 ekx2 vkx2 => ?_)
    refine lv_icmp_le (tgt := 49) hx hb dX6_share_26 (by decide) (fun kc3 => ?_) (fun kc3 => ?_)
    · exact q_retv hE hr hlocks hW (trivial) dX6_share_49
    · have kv4 : q_V (-2147483648) 2147483646 kx2 := (q_lt1 (q_all kx2) (q_all i2) (Int32.not_le.mp kc3)).w (by decide) (by decide)
      have kv5 : q_V (-2147483647) 2147483647 i2 := (q_lt2 (q_all kx2) (q_all i2) (Int32.not_le.mp kc3)).w (by decide) (by decide)
      refine lv_aload_n hx hb dX6_share_29 rfl (lv_at hl 0 rfl) ?_
      refine lv_iload_n hx hb dX6_share_30 rfl (lv_at hl 1 rfl) ?_
      refine q_puti hE hW h0 rfl q_k6 tyX6 tyX6_ok 6 (by decide) rfl (hE.l wl_834) rfl rfl rfl (kv5.w (by decide) (by decide)) (by decide) dX6_share_31 (fun H locs ks6 kp7 hW => ?_)
      refine lv_aload_n hx hb dX6_share_34 rfl (lv_at hl 0 rfl) ?_
      refine q_getr hE hW h0 rfl q_k6 3 (by decide) rfl (hE.l wl_115) dX6_share_35 (fun kb8 ekb8 hkb8a hkb8b => ?_)
      have hkb8 : q_T G kb8 = 19 := q_tag hkb8a hkb8b
      refine lv_iconst (v := 0) hx hb dX6_share_38 (by decide) ?_
      refine lv_aload_n hx hb dX6_share_39 rfl (lv_at hl 0 rfl) ?_
      refine q_getr hE hW h0 rfl q_k6 4 (by decide) rfl (hE.l wl_116) dX6_share_40 (fun kb9 ekb9 hkb9a hkb9b => ?_)
      have hkb9 : q_T G kb9 = 20 := q_tag hkb9a hkb9b
      refine lv_iconst (v := 0) hx hb dX6_share_43 (by decide) ?_
      refine lv_bipush (v := 6) hx hb dX6_share_44 (by decide) ?_
      refine q_acopy hE hW hkb8 hkb9 rfl rfl (Or.inl rfl) (by decide) (by decide) (by decide) (by decide) (by decide) (fun _ _ _ _ => trivial) (by decide) wl_850 wl_201 wl_202 wl_203 hl.1 (by decide) (Nat.le_of_ble_eq_true rfl) dX6_share_46 (fun H locs ks10 kp11 hW => ?_)
      exact q_retv hE hr hlocks hW (trivial) dX6_share_49
  refine lv_iload_n hx hb dX6_share_0 rfl (lv_at hl 1 rfl) ?_
  refine lv_if_lt (tgt := 21) hx hb dX6_share_1 (by decide) (fun kc12 => ?_) (fun kc12 => ?_)
  · have kv13 : q_V 6 (-1) i1 := (q_lt1 w1 (q_c (k := 0) (x := 0) (by decide)) kc12).w (by decide) (by decide)
    exact (kv13.no (by decide))
  · refine lv_iload_n hx hb dX6_share_4 rfl (lv_at hl 1 rfl) ?_
    refine lv_aload_n hx hb dX6_share_5 rfl (lv_at hl 0 rfl) ?_
    refine q_getr hE hW h0 rfl q_k6 0 (by decide) rfl (hE.l wl_112) dX6_share_6 (fun kb14 ekb14 hkb14a hkb14b => ?_)
    have hkb14 : q_T G kb14 = 7 := q_tag hkb14a hkb14b
    refine q_geti hE hW hkb14 rfl q_k2 1 (by decide) rfl (hE.n 19 rfl) dX6_share_9 (fun kx15 ekx15 vkx15 => ?_)
    refine lv_icmp_ge (tgt := 21) hx hb dX6_share_12 (by decide) (fun kc16 => ?_) (fun kc16 => ?_)
    · exact jn21a _ _ _ hW ls (lv_sub hl [0, 2] rfl)
    · have kv17 : q_V 6 5 i1 := (q_lt1 w1 vkx15 (Int32.not_le.mp kc16)).w (by decide) (by decide)
      exact (kv17.no (by decide))
set_option maxHeartbeats 4000000 in
set_option maxRecDepth 100000 in
theorem c_X6_share_t5 (l : Launch) (G : q_G) (σ : q_S) (a0 : Nat) (h0 : q_T G a0 = 16) (i1 : Int32) (w1 : q_V 5 5 i1) (i2 : Int32)  : Met l yX6_share (Cond.code yX6_share cX6_share 5 none :: wsL_law) (q_Rm 5) (q_Pre G σ [.ref a0, .int i1, .int i2]) (q_Qv G [16, 18, 19, 20] σ (fun σ1 => True)) 0 0 (q_N G) := by
  refine q_ofW (ts := [16, 18, 19, 20]) (by decide) (Nat.le_of_ble_eq_true rfl) ?_
  intro p e s m args below meth c hE hr hlocks hW ls hl
  have hE : q_E G p s m args c cX6_share 5 RX6 := hE
  have hx := hE.1.1
  have hb := hE.1.2.1
  have hl : lv_has ls 5 [(0, .ref a0), (1, .int i1), (2, .int i2)] := hl
  have jn176a : ∀ (ks1 : q_S) (H : Heap) (locs : List Loc) (hW : q_Wd G [16, 18, 19, 20] σ s.heap ks1 H locs) (ls : Array Slot) (hl : lv_has ls 5 [(0, .ref a0), (1, .int i1), (2, .int i2)]), W p l e (q_Rm 5) s m args below meth c H locs 0 0 (MQ below (q_Qv G [16, 18, 19, 20] σ (fun σ1 => True)) args s 0 0 (q_N G)) (F0 m 176 ls []) := by
    intro ks1 H locs hW ls hl
    refine lv_aload_n hx hb dX6_share_176 rfl (lv_at hl 0 rfl) ?_
    refine q_getr hE hW h0 rfl q_k6 3 (by decide) rfl (hE.l wl_115) dX6_share_177 (fun kb2 ekb2 hkb2a hkb2b => ?_)
    have hkb2 : q_T G kb2 = 19 := q_tag hkb2a hkb2b
    refine lv_iload_n hx hb dX6_share_180 rfl (lv_at hl 1 rfl) ?_
    refine lv_iconst (v := (-1)) hx hb dX6_share_181 (by decide) ?_
    refine q_iast hE hW hkb2 rfl (q_in w1 (by decide) (by decide)) trivial (by decide) dX6_share_182 (fun H locs ks3 kp4 hW => ?_)
    refine lv_aload_n hx hb dX6_share_183 rfl (lv_at hl 0 rfl) ?_
    refine lv_iload_n hx hb dX6_share_184 rfl (lv_at hl 1 rfl) ?_
    refine lv_iconst (v := 1) hx hb dX6_share_185 (by decide) ?_
    refine lv_iadd hx hb dX6_share_186 ?_
    refine lv_topi (fun kx5 ekx5 => ?_)
    have vkx5 : q_V 6 6 kx5 := by rw [ekx5]; exact (q_add w1 (q_c (k := 1) (x := 1) (by decide)) (by decide) (by decide)).w (by decide) (by decide)
    have ikx5 : kx5.toInt = i1.toInt + 1 := q_incT ekx5 w1 (by decide) (by decide) (by decide)
    refine lv_iload_n hx hb dX6_share_187 rfl (lv_at hl 2 rfl) ?_
    refine q_gov hW (q_runV (As := [.int kx5, .int i2]) (rest := []) hE hW (c_X6_share_t6 l G ks3 a0 h0 kx5 vkx5 i2) kw_X6_71 (q_recv hE hW h0 rfl q_k6) rfl hl.1 rfl (Nat.le_of_ble_eq_true rfl) dX6_share_188 ⟨by decide, by decide⟩ ⟨by decide, by decide⟩) (by decide) (fun ks7 H locs kp6 kf8 hW => ?_)
    exact q_retv hE hr hlocks hW (trivial) dX6_share_191
  have lp93a : ∀ (n93a : Nat) (ks11 : q_S) (H : Heap) (locs : List Loc) (kx9 : Int32) (vkx9 : q_V 0 1 kx9) (kx10 : Int32) (vkx10 : q_V 0 3 kx10) (hW : q_Wd G [16, 18, 19, 20] σ s.heap ks11 H locs) (ls : Array Slot) (hl : lv_has ls 5 [(0, .ref a0), (1, .int i1), (2, .int i2), (3, .int kx9), (4, .int kx10)]), (3 - kx10.toInt).toNat < n93a → W p l e (q_Rm 5) s m args below meth c H locs 0 0 (MQ below (q_Qv G [16, 18, 19, 20] σ (fun σ1 => True)) args s 0 0 (q_N G)) (F0 m 93 ls []) := by
    intro n93a
    induction n93a with
    | zero => intro _ _ _ _ _ _ _ _ _ _; exact fun h => absurd h (Nat.not_lt_zero _)
    | succ n93a ih93a =>
      intro ks11 H locs kx9 vkx9 kx10 vkx10 hW ls hl hm93a
      have jn155a : ∀ (ks14 : q_S) (H : Heap) (locs : List Loc) (kv12 : q_V 1 1 kx9) (kv13 : q_V 0 2 kx10) (hW : q_Wd G [16, 18, 19, 20] σ s.heap ks14 H locs) (ls : Array Slot) (hl : lv_has ls 5 [(0, .ref a0), (1, .int i1), (2, .int i2), (3, .int kx9), (4, .int kx10)]), W p l e (q_Rm 5) s m args below meth c H locs 0 0 (MQ below (q_Qv G [16, 18, 19, 20] σ (fun σ1 => True)) args s 0 0 (q_N G)) (F0 m 155 ls []) := by
        intro ks14 H locs kv12 kv13 hW ls hl
        refine lv_aload_n hx hb dX6_share_155 rfl (lv_at hl 0 rfl) ?_
        refine q_getr hE hW h0 rfl q_k6 2 (by decide) rfl (hE.l wl_114) dX6_share_156 (fun kb15 ekb15 hkb15a hkb15b => ?_)
        have hkb15 : q_T G kb15 = 18 := q_tag hkb15a hkb15b
        refine lv_iload hx hb dX6_share_159 (lv_at hl 4 rfl) ?_
        refine lv_dup2_11 hx hb dX6_share_161 rfl rfl ?_
        refine q_iald hE hW hkb15 rfl (q_in kv13 (by decide) (by decide)) dX6_share_162 (fun kx16 ekx16 gkx16 => ?_)
        refine lv_iconst (v := 1) hx hb dX6_share_163 (by decide) ?_
        refine lv_iload_n hx hb dX6_share_164 rfl (lv_at hl 1 rfl) ?_
        refine lv_ishl hx hb dX6_share_165 ?_
        refine lv_topi (fun kx17 ekx17 => ?_)
        refine lv_iconst (v := (-1)) hx hb dX6_share_166 (by decide) ?_
        refine lv_ixor hx hb dX6_share_167 ?_
        refine lv_topi (fun kx18 ekx18 => ?_)
        refine lv_iand hx hb dX6_share_168 ?_
        refine lv_topi (fun kx19 ekx19 => ?_)
        refine q_iast hE hW hkb15 rfl (q_in kv13 (by decide) (by decide)) trivial (by decide) dX6_share_169 (fun H locs ks20 kp21 hW => ?_)
        obtain ⟨kx22, ekx22⟩ : ∃ y : Int32, y = kx10 + 1 := ⟨_, rfl⟩
        have vkx22 : q_V 1 3 kx22 := by rw [ekx22]; exact (q_add kv13 (q_c (k := 1) (x := 1) (by decide)) (by decide) (by decide)).w (by decide) (by decide)
        have ikx22 : kx22.toInt = kx10.toInt + 1 := q_incT ekx22 kv13 (by decide) (by decide) (by decide)
        refine lv_iinc (v := kx22) (lv' := [(4, .int kx22), (0, .ref a0), (1, .int i1), (2, .int i2), (3, .int kx9)]) hx hb dX6_share_170 hl (k := 4) rfl (by rw [ekx22]; rfl) (by decide) rfl (fun ls hl => ?_)
        refine lv_goto (tgt := 93) hx hb dX6_share_173 (by decide) ?_
        exact ih93a _ _ _ kx9 (kv12.w (by decide) (by decide)) kx22 (vkx22.w (by decide) (by decide)) hW ls (lv_sub hl [1, 2, 3, 4, 0] rfl) (Nat.lt_of_lt_of_le (q_up (ikx22) (show q_V 1 3 kx22 from vkx22).2) (Nat.le_of_lt_succ hm93a))
      refine lv_iload_n hx hb dX6_share_93 rfl (lv_at hl 3 rfl) ?_
      refine lv_if_eq (tgt := 176) hx hb dX6_share_94 (by decide) (fun kc23 => ?_) (fun kc23 => ?_)
      · have kv24 : q_V 0 0 kx9 := q_eq1 vkx9 (q_c (k := 0) (x := 0) (by decide)) kc23 (by decide) (by decide)
        exact jn176a _ _ _ hW ls (lv_sub hl [0, 1, 2] rfl)
      · have kv25 : q_V 1 1 kx9 := q_ne1 vkx9 (q_c (k := 0) (x := 0) (by decide)) kc23 (by decide)
        refine lv_iload hx hb dX6_share_97 (lv_at hl 4 rfl) ?_
        refine lv_aload_n hx hb dX6_share_99 rfl (lv_at hl 0 rfl) ?_
        refine q_getr hE hW h0 rfl q_k6 0 (by decide) rfl (hE.l wl_112) dX6_share_100 (fun kb26 ekb26 hkb26a hkb26b => ?_)
        have hkb26 : q_T G kb26 = 7 := q_tag hkb26a hkb26b
        refine q_geti hE hW hkb26 rfl q_k2 4 (by decide) rfl (hE.n 25 rfl) dX6_share_103 (fun kx27 ekx27 vkx27 => ?_)
        refine lv_icmp_ge (tgt := 176) hx hb dX6_share_106 (by decide) (fun kc28 => ?_) (fun kc28 => ?_)
        · exact jn176a _ _ _ hW ls (lv_sub hl [0, 1, 2] rfl)
        · have kv29 : q_V 0 2 kx10 := (q_lt1 vkx10 vkx27 (Int32.not_le.mp kc28)).w (by decide) (by decide)
          have kv30 : q_V 1 3 kx27 := (q_lt2 vkx10 vkx27 (Int32.not_le.mp kc28)).w (by decide) (by decide)
          refine lv_iload hx hb dX6_share_109 (lv_at hl 4 rfl) ?_
          refine lv_iconst (v := 3) hx hb dX6_share_111 (by decide) ?_
          refine lv_icmp_ge (tgt := 176) hx hb dX6_share_112 (by decide) (fun kc31 => ?_) (fun kc31 => ?_)
          · have kv32 : q_V 3 2 3 := (q_le1 (q_c (k := 3) (x := 3) (by decide)) kv29 kc31).w (by decide) (by decide)
            exact (kv32.no (by decide))
          · refine lv_aload_n hx hb dX6_share_115 rfl (lv_at hl 0 rfl) ?_
            refine q_getr hE hW h0 rfl q_k6 2 (by decide) rfl (hE.l wl_114) dX6_share_116 (fun kb33 ekb33 hkb33a hkb33b => ?_)
            have hkb33 : q_T G kb33 = 18 := q_tag hkb33a hkb33b
            refine lv_iload hx hb dX6_share_119 (lv_at hl 4 rfl) ?_
            refine lv_dup2_11 hx hb dX6_share_121 rfl rfl ?_
            refine q_iald hE hW hkb33 rfl (q_in kv29 (by decide) (by decide)) dX6_share_122 (fun kx34 ekx34 gkx34 => ?_)
            refine lv_iconst (v := 1) hx hb dX6_share_123 (by decide) ?_
            refine lv_iload_n hx hb dX6_share_124 rfl (lv_at hl 1 rfl) ?_
            refine lv_ishl hx hb dX6_share_125 ?_
            refine lv_topi (fun kx35 ekx35 => ?_)
            refine lv_ior hx hb dX6_share_126 ?_
            refine lv_topi (fun kx36 ekx36 => ?_)
            refine q_iast hE hW hkb33 rfl (q_in kv29 (by decide) (by decide)) trivial (by decide) dX6_share_127 (fun H locs ks37 kp38 hW => ?_)
            refine lv_aload_n hx hb dX6_share_128 rfl (lv_at hl 0 rfl) ?_
            refine lv_iload hx hb dX6_share_129 (lv_at hl 4 rfl) ?_
            refine q_goi hW (q_runV (As := [.int kx10]) (rest := []) hE hW (c_X6_isInTime l G ks37 a0 h0 kx10) kw_X6_95 (q_recv hE hW h0 rfl q_k6) rfl hl.1 rfl (Nat.le_of_ble_eq_true rfl) dX6_share_131 ⟨by decide, by decide⟩ ⟨by decide, by decide⟩) (by decide) (fun kx42 ks40 H locs kp39 kf41 hW => ?_)
            refine lv_if_eq (tgt := 155) hx hb dX6_share_134 (by decide) (fun kc43 => ?_) (fun kc43 => ?_)
            · have kv44 : q_V 0 0 kx42 := q_eq1 kp39 (q_c (k := 0) (x := 0) (by decide)) kc43 (by decide) (by decide)
              exact jn155a _ _ _ kv25 kv29 hW ls (lv_sub hl [0, 1, 2, 3, 4] rfl)
            · have kv45 : q_V 1 1 kx42 := q_ne1 kp39 (q_c (k := 0) (x := 0) (by decide)) kc43 (by decide)
              refine lv_aload_n hx hb dX6_share_137 rfl (lv_at hl 0 rfl) ?_
              refine q_getr hE hW h0 rfl q_k6 3 (by decide) rfl (hE.l wl_115) dX6_share_138 (fun kb46 ekb46 hkb46a hkb46b => ?_)
              have hkb46 : q_T G kb46 = 19 := q_tag hkb46a hkb46b
              refine lv_iload_n hx hb dX6_share_141 rfl (lv_at hl 1 rfl) ?_
              refine lv_iload hx hb dX6_share_142 (lv_at hl 4 rfl) ?_
              refine q_iast hE hW hkb46 rfl (q_in w1 (by decide) (by decide)) trivial (by decide) dX6_share_144 (fun H locs ks47 kp48 hW => ?_)
              refine lv_aload_n hx hb dX6_share_145 rfl (lv_at hl 0 rfl) ?_
              refine lv_iload_n hx hb dX6_share_146 rfl (lv_at hl 1 rfl) ?_
              refine lv_iconst (v := 1) hx hb dX6_share_147 (by decide) ?_
              refine lv_iadd hx hb dX6_share_148 ?_
              refine lv_topi (fun kx49 ekx49 => ?_)
              have vkx49 : q_V 6 6 kx49 := by rw [ekx49]; exact (q_add w1 (q_c (k := 1) (x := 1) (by decide)) (by decide) (by decide)).w (by decide) (by decide)
              have ikx49 : kx49.toInt = i1.toInt + 1 := q_incT ekx49 w1 (by decide) (by decide) (by decide)
              refine lv_iload_n hx hb dX6_share_149 rfl (lv_at hl 2 rfl) ?_
              refine lv_iconst (v := 1) hx hb dX6_share_150 (by decide) ?_
              refine lv_iadd hx hb dX6_share_151 ?_
              refine lv_topi (fun kx50 ekx50 => ?_)
              refine q_gov hW (q_runV (As := [.int kx49, .int kx50]) (rest := []) hE hW (c_X6_share_t6 l G ks47 a0 h0 kx49 vkx49 kx50) kw_X6_71 (q_recv hE hW h0 rfl q_k6) rfl hl.1 rfl (Nat.le_of_ble_eq_true rfl) dX6_share_152 ⟨by decide, by decide⟩ ⟨by decide, by decide⟩) (by decide) (fun ks52 H locs kp51 kf53 hW => ?_)
              exact jn155a _ _ _ kv25 kv29 hW ls (lv_sub hl [0, 1, 2, 3, 4] rfl)
  have jn89a : ∀ (ks55 : q_S) (H : Heap) (locs : List Loc) (kx54 : Int32) (vkx54 : q_V 0 1 kx54) (hW : q_Wd G [16, 18, 19, 20] σ s.heap ks55 H locs) (ls : Array Slot) (hl : lv_has ls 5 [(0, .ref a0), (1, .int i1), (2, .int i2)]), W p l e (q_Rm 5) s m args below meth c H locs 0 0 (MQ below (q_Qv G [16, 18, 19, 20] σ (fun σ1 => True)) args s 0 0 (q_N G)) (F0 m 89 ls [.int kx54]) := by
    intro ks55 H locs kx54 vkx54 hW ls hl
    refine lv_istore_n (lv' := [(3, .int kx54), (0, .ref a0), (1, .int i1), (2, .int i2)]) hx hb dX6_share_89 rfl hl (by decide) rfl (fun ls hl => ?_)
    refine lv_iconst (v := 0) hx hb dX6_share_90 (by decide) ?_
    refine lv_istore (lv' := [(4, .int 0), (3, .int kx54), (0, .ref a0), (1, .int i1), (2, .int i2)]) hx hb dX6_share_91 hl (by decide) rfl (fun ls hl => ?_)
    exact lp93a _ _ _ _ kx54 vkx54 0 ((q_c (k := 0) (x := 0) (by decide)).w (by decide) (by decide)) hW ls (lv_sub hl [2, 3, 4, 1, 0] rfl) (Nat.lt_succ_self _)
  have jn21a : ∀ (ks56 : q_S) (H : Heap) (locs : List Loc) (hW : q_Wd G [16, 18, 19, 20] σ s.heap ks56 H locs) (ls : Array Slot) (hl : lv_has ls 5 [(0, .ref a0), (2, .int i2)]), W p l e (q_Rm 5) s m args below meth c H locs 0 0 (MQ below (q_Qv G [16, 18, 19, 20] σ (fun σ1 => True)) args s 0 0 (q_N G)) (F0 m 21 ls []) := by
    intro ks56 H locs hW ls hl
    refine lv_iload_n hx hb dX6_share_21 rfl (lv_at hl 1 rfl) ?_
    refine lv_aload_n hx hb dX6_share_22 rfl (lv_at hl 0 rfl) ?_
    refine q_geti hE hW h0 rfl q_k6 6 (by decide) rfl (hE.l wl_834) dX6_share_23 (fun kx57 ekx57 vkx57 => ?_)
    refine lv_icmp_le (tgt := 49) hx hb dX6_share_26 (by decide) (fun kc58 => ?_) (fun kc58 => ?_)
    · exact q_retv hE hr hlocks hW (trivial) dX6_share_49
    · have kv59 : q_V (-2147483648) 2147483646 kx57 := (q_lt1 (q_all kx57) (q_all i2) (Int32.not_le.mp kc58)).w (by decide) (by decide)
      have kv60 : q_V (-2147483647) 2147483647 i2 := (q_lt2 (q_all kx57) (q_all i2) (Int32.not_le.mp kc58)).w (by decide) (by decide)
      refine lv_aload_n hx hb dX6_share_29 rfl (lv_at hl 0 rfl) ?_
      refine lv_iload_n hx hb dX6_share_30 rfl (lv_at hl 1 rfl) ?_
      refine q_puti hE hW h0 rfl q_k6 tyX6 tyX6_ok 6 (by decide) rfl (hE.l wl_834) rfl rfl rfl (kv60.w (by decide) (by decide)) (by decide) dX6_share_31 (fun H locs ks61 kp62 hW => ?_)
      refine lv_aload_n hx hb dX6_share_34 rfl (lv_at hl 0 rfl) ?_
      refine q_getr hE hW h0 rfl q_k6 3 (by decide) rfl (hE.l wl_115) dX6_share_35 (fun kb63 ekb63 hkb63a hkb63b => ?_)
      have hkb63 : q_T G kb63 = 19 := q_tag hkb63a hkb63b
      refine lv_iconst (v := 0) hx hb dX6_share_38 (by decide) ?_
      refine lv_aload_n hx hb dX6_share_39 rfl (lv_at hl 0 rfl) ?_
      refine q_getr hE hW h0 rfl q_k6 4 (by decide) rfl (hE.l wl_116) dX6_share_40 (fun kb64 ekb64 hkb64a hkb64b => ?_)
      have hkb64 : q_T G kb64 = 20 := q_tag hkb64a hkb64b
      refine lv_iconst (v := 0) hx hb dX6_share_43 (by decide) ?_
      refine lv_bipush (v := 6) hx hb dX6_share_44 (by decide) ?_
      refine q_acopy hE hW hkb63 hkb64 rfl rfl (Or.inl rfl) (by decide) (by decide) (by decide) (by decide) (by decide) (fun _ _ _ _ => trivial) (by decide) wl_850 wl_201 wl_202 wl_203 hl.1 (by decide) (Nat.le_of_ble_eq_true rfl) dX6_share_46 (fun H locs ks65 kp66 hW => ?_)
      exact q_retv hE hr hlocks hW (trivial) dX6_share_49
  refine lv_iload_n hx hb dX6_share_0 rfl (lv_at hl 1 rfl) ?_
  refine lv_if_lt (tgt := 21) hx hb dX6_share_1 (by decide) (fun kc67 => ?_) (fun kc67 => ?_)
  · have kv68 : q_V 5 (-1) i1 := (q_lt1 w1 (q_c (k := 0) (x := 0) (by decide)) kc67).w (by decide) (by decide)
    exact (kv68.no (by decide))
  · refine lv_iload_n hx hb dX6_share_4 rfl (lv_at hl 1 rfl) ?_
    refine lv_aload_n hx hb dX6_share_5 rfl (lv_at hl 0 rfl) ?_
    refine q_getr hE hW h0 rfl q_k6 0 (by decide) rfl (hE.l wl_112) dX6_share_6 (fun kb69 ekb69 hkb69a hkb69b => ?_)
    have hkb69 : q_T G kb69 = 7 := q_tag hkb69a hkb69b
    refine q_geti hE hW hkb69 rfl q_k2 1 (by decide) rfl (hE.n 19 rfl) dX6_share_9 (fun kx70 ekx70 vkx70 => ?_)
    refine lv_icmp_ge (tgt := 21) hx hb dX6_share_12 (by decide) (fun kc71 => ?_) (fun kc71 => ?_)
    · have kv72 : q_V 0 5 kx70 := (q_le1 vkx70 w1 kc71).w (by decide) (by decide)
      exact jn21a _ _ _ hW ls (lv_sub hl [0, 2] rfl)
    · have kv73 : q_V 6 6 kx70 := (q_lt2 w1 vkx70 (Int32.not_le.mp kc71)).w (by decide) (by decide)
      refine lv_iload_n hx hb dX6_share_15 rfl (lv_at hl 1 rfl) ?_
      refine lv_bipush (v := 6) hx hb dX6_share_16 (by decide) ?_
      refine lv_icmp_lt (tgt := 50) hx hb dX6_share_18 (by decide) (fun kc74 => ?_) (fun kc74 => ?_)
      · refine lv_iload_n hx hb dX6_share_50 rfl (lv_at hl 2 rfl) ?_
        refine lv_aload_n hx hb dX6_share_51 rfl (lv_at hl 0 rfl) ?_
        refine q_getr hE hW h0 rfl q_k6 0 (by decide) rfl (hE.l wl_112) dX6_share_52 (fun kb75 ekb75 hkb75a hkb75b => ?_)
        obtain rfl : kb69 = kb75 := ekb69.symm.trans ekb75
        refine q_geti hE hW hkb69 rfl q_k2 1 (by decide) rfl (hE.n 19 rfl) dX6_share_55 (fun kx76 ekx76 vkx76 => ?_)
        obtain rfl : kx70 = kx76 := ekx70.symm.trans ekx76
        refine lv_iadd hx hb dX6_share_58 ?_
        refine lv_topi (fun kx77 ekx77 => ?_)
        refine lv_iload_n hx hb dX6_share_59 rfl (lv_at hl 1 rfl) ?_
        refine lv_isub hx hb dX6_share_60 ?_
        refine lv_topi (fun kx78 ekx78 => ?_)
        refine lv_aload_n hx hb dX6_share_61 rfl (lv_at hl 0 rfl) ?_
        refine q_geti hE hW h0 rfl q_k6 6 (by decide) rfl (hE.l wl_834) dX6_share_62 (fun kx79 ekx79 vkx79 => ?_)
        refine lv_icmp_gt (tgt := 69) hx hb dX6_share_65 (by decide) (fun kc80 => ?_) (fun kc80 => ?_)
        · have kv81 : q_V (-2147483648) 2147483646 kx79 := (q_lt1 (q_all kx79) (q_all kx78) kc80).w (by decide) (by decide)
          have kv82 : q_V (-2147483647) 2147483647 kx78 := (q_lt2 (q_all kx79) (q_all kx78) kc80).w (by decide) (by decide)
          refine lv_aload_n hx hb dX6_share_69 rfl (lv_at hl 0 rfl) ?_
          refine q_getr hE hW h0 rfl q_k6 0 (by decide) rfl (hE.l wl_112) dX6_share_70 (fun kb83 ekb83 hkb83a hkb83b => ?_)
          obtain rfl : kb69 = kb83 := ekb69.symm.trans ekb83
          refine q_getr hE hW hkb69 rfl q_k2 0 (by decide) rfl (hE.n 17 rfl) dX6_share_73 (fun kb84 ekb84 hkb84a hkb84b => ?_)
          have hkb84 : q_T G kb84 = 8 := q_tag hkb84a hkb84b
          refine lv_iload_n hx hb dX6_share_76 rfl (lv_at hl 1 rfl) ?_
          refine q_aald hE hW hkb84 rfl (q_in w1 (by decide) (by decide)) dX6_share_77 (fun kb85 ekb85 hkb85a hkb85b => ?_)
          have hkb85 : q_T G kb85 = 5 := q_tag hkb85a hkb85b
          refine q_geti hE hW hkb85 rfl q_k1 3 (by decide) rfl (hE.n 10 rfl) dX6_share_78 (fun kx86 ekx86 vkx86 => ?_)
          refine lv_if_ne (tgt := 88) hx hb dX6_share_81 (by decide) (fun kc87 => ?_) (fun kc87 => ?_)
          · refine lv_iconst (v := 0) hx hb dX6_share_88 (by decide) ?_
            exact jn89a _ _ _ 0 ((q_c (k := 0) (x := 0) (by decide)).w (by decide) (by decide)) hW ls (lv_sub hl [0, 1, 2] rfl)
          · have kv88 : q_V 0 0 kx86 := q_eq1 (q_all kx86) (q_c (k := 0) (x := 0) (by decide)) kc87 (by decide) (by decide)
            refine lv_iconst (v := 1) hx hb dX6_share_84 (by decide) ?_
            refine lv_goto (tgt := 89) hx hb dX6_share_85 (by decide) ?_
            exact jn89a _ _ _ 1 ((q_c (k := 1) (x := 1) (by decide)).w (by decide) (by decide)) hW ls (lv_sub hl [0, 1, 2] rfl)
        · exact q_retv hE hr hlocks hW (trivial) dX6_share_68
      · have kv89 : q_V 6 5 6 := (q_le1 (q_c (k := 6) (x := 6) (by decide)) w1 (Int32.not_lt.mp kc74)).w (by decide) (by decide)
        exact (kv89.no (by decide))
set_option maxHeartbeats 4000000 in
set_option maxRecDepth 100000 in
theorem c_X6_share_t4 (l : Launch) (G : q_G) (σ : q_S) (a0 : Nat) (h0 : q_T G a0 = 16) (i1 : Int32) (w1 : q_V 4 4 i1) (i2 : Int32)  : Met l yX6_share (Cond.code yX6_share cX6_share 5 none :: wsL_law) (q_Rm 6) (q_Pre G σ [.ref a0, .int i1, .int i2]) (q_Qv G [16, 18, 19, 20] σ (fun σ1 => True)) 0 0 (q_N G) := by
  refine q_ofW (ts := [16, 18, 19, 20]) (by decide) (Nat.le_of_ble_eq_true rfl) ?_
  intro p e s m args below meth c hE hr hlocks hW ls hl
  have hE : q_E G p s m args c cX6_share 5 RX6 := hE
  have hx := hE.1.1
  have hb := hE.1.2.1
  have hl : lv_has ls 5 [(0, .ref a0), (1, .int i1), (2, .int i2)] := hl
  have jn176a : ∀ (ks1 : q_S) (H : Heap) (locs : List Loc) (hW : q_Wd G [16, 18, 19, 20] σ s.heap ks1 H locs) (ls : Array Slot) (hl : lv_has ls 5 [(0, .ref a0), (1, .int i1), (2, .int i2)]), W p l e (q_Rm 6) s m args below meth c H locs 0 0 (MQ below (q_Qv G [16, 18, 19, 20] σ (fun σ1 => True)) args s 0 0 (q_N G)) (F0 m 176 ls []) := by
    intro ks1 H locs hW ls hl
    refine lv_aload_n hx hb dX6_share_176 rfl (lv_at hl 0 rfl) ?_
    refine q_getr hE hW h0 rfl q_k6 3 (by decide) rfl (hE.l wl_115) dX6_share_177 (fun kb2 ekb2 hkb2a hkb2b => ?_)
    have hkb2 : q_T G kb2 = 19 := q_tag hkb2a hkb2b
    refine lv_iload_n hx hb dX6_share_180 rfl (lv_at hl 1 rfl) ?_
    refine lv_iconst (v := (-1)) hx hb dX6_share_181 (by decide) ?_
    refine q_iast hE hW hkb2 rfl (q_in w1 (by decide) (by decide)) trivial (by decide) dX6_share_182 (fun H locs ks3 kp4 hW => ?_)
    refine lv_aload_n hx hb dX6_share_183 rfl (lv_at hl 0 rfl) ?_
    refine lv_iload_n hx hb dX6_share_184 rfl (lv_at hl 1 rfl) ?_
    refine lv_iconst (v := 1) hx hb dX6_share_185 (by decide) ?_
    refine lv_iadd hx hb dX6_share_186 ?_
    refine lv_topi (fun kx5 ekx5 => ?_)
    have vkx5 : q_V 5 5 kx5 := by rw [ekx5]; exact (q_add w1 (q_c (k := 1) (x := 1) (by decide)) (by decide) (by decide)).w (by decide) (by decide)
    have ikx5 : kx5.toInt = i1.toInt + 1 := q_incT ekx5 w1 (by decide) (by decide) (by decide)
    refine lv_iload_n hx hb dX6_share_187 rfl (lv_at hl 2 rfl) ?_
    refine q_gov hW (q_runV (As := [.int kx5, .int i2]) (rest := []) hE hW (c_X6_share_t5 l G ks3 a0 h0 kx5 vkx5 i2) kw_X6_71 (q_recv hE hW h0 rfl q_k6) rfl hl.1 rfl (Nat.le_of_ble_eq_true rfl) dX6_share_188 ⟨by decide, by decide⟩ ⟨by decide, by decide⟩) (by decide) (fun ks7 H locs kp6 kf8 hW => ?_)
    exact q_retv hE hr hlocks hW (trivial) dX6_share_191
  have lp93a : ∀ (n93a : Nat) (ks11 : q_S) (H : Heap) (locs : List Loc) (kx9 : Int32) (vkx9 : q_V 0 1 kx9) (kx10 : Int32) (vkx10 : q_V 0 3 kx10) (hW : q_Wd G [16, 18, 19, 20] σ s.heap ks11 H locs) (ls : Array Slot) (hl : lv_has ls 5 [(0, .ref a0), (1, .int i1), (2, .int i2), (3, .int kx9), (4, .int kx10)]), (3 - kx10.toInt).toNat < n93a → W p l e (q_Rm 6) s m args below meth c H locs 0 0 (MQ below (q_Qv G [16, 18, 19, 20] σ (fun σ1 => True)) args s 0 0 (q_N G)) (F0 m 93 ls []) := by
    intro n93a
    induction n93a with
    | zero => intro _ _ _ _ _ _ _ _ _ _; exact fun h => absurd h (Nat.not_lt_zero _)
    | succ n93a ih93a =>
      intro ks11 H locs kx9 vkx9 kx10 vkx10 hW ls hl hm93a
      have jn155a : ∀ (ks14 : q_S) (H : Heap) (locs : List Loc) (kv12 : q_V 1 1 kx9) (kv13 : q_V 0 2 kx10) (hW : q_Wd G [16, 18, 19, 20] σ s.heap ks14 H locs) (ls : Array Slot) (hl : lv_has ls 5 [(0, .ref a0), (1, .int i1), (2, .int i2), (3, .int kx9), (4, .int kx10)]), W p l e (q_Rm 6) s m args below meth c H locs 0 0 (MQ below (q_Qv G [16, 18, 19, 20] σ (fun σ1 => True)) args s 0 0 (q_N G)) (F0 m 155 ls []) := by
        intro ks14 H locs kv12 kv13 hW ls hl
        refine lv_aload_n hx hb dX6_share_155 rfl (lv_at hl 0 rfl) ?_
        refine q_getr hE hW h0 rfl q_k6 2 (by decide) rfl (hE.l wl_114) dX6_share_156 (fun kb15 ekb15 hkb15a hkb15b => ?_)
        have hkb15 : q_T G kb15 = 18 := q_tag hkb15a hkb15b
        refine lv_iload hx hb dX6_share_159 (lv_at hl 4 rfl) ?_
        refine lv_dup2_11 hx hb dX6_share_161 rfl rfl ?_
        refine q_iald hE hW hkb15 rfl (q_in kv13 (by decide) (by decide)) dX6_share_162 (fun kx16 ekx16 gkx16 => ?_)
        refine lv_iconst (v := 1) hx hb dX6_share_163 (by decide) ?_
        refine lv_iload_n hx hb dX6_share_164 rfl (lv_at hl 1 rfl) ?_
        refine lv_ishl hx hb dX6_share_165 ?_
        refine lv_topi (fun kx17 ekx17 => ?_)
        refine lv_iconst (v := (-1)) hx hb dX6_share_166 (by decide) ?_
        refine lv_ixor hx hb dX6_share_167 ?_
        refine lv_topi (fun kx18 ekx18 => ?_)
        refine lv_iand hx hb dX6_share_168 ?_
        refine lv_topi (fun kx19 ekx19 => ?_)
        refine q_iast hE hW hkb15 rfl (q_in kv13 (by decide) (by decide)) trivial (by decide) dX6_share_169 (fun H locs ks20 kp21 hW => ?_)
        obtain ⟨kx22, ekx22⟩ : ∃ y : Int32, y = kx10 + 1 := ⟨_, rfl⟩
        have vkx22 : q_V 1 3 kx22 := by rw [ekx22]; exact (q_add kv13 (q_c (k := 1) (x := 1) (by decide)) (by decide) (by decide)).w (by decide) (by decide)
        have ikx22 : kx22.toInt = kx10.toInt + 1 := q_incT ekx22 kv13 (by decide) (by decide) (by decide)
        refine lv_iinc (v := kx22) (lv' := [(4, .int kx22), (0, .ref a0), (1, .int i1), (2, .int i2), (3, .int kx9)]) hx hb dX6_share_170 hl (k := 4) rfl (by rw [ekx22]; rfl) (by decide) rfl (fun ls hl => ?_)
        refine lv_goto (tgt := 93) hx hb dX6_share_173 (by decide) ?_
        exact ih93a _ _ _ kx9 (kv12.w (by decide) (by decide)) kx22 (vkx22.w (by decide) (by decide)) hW ls (lv_sub hl [1, 2, 3, 4, 0] rfl) (Nat.lt_of_lt_of_le (q_up (ikx22) (show q_V 1 3 kx22 from vkx22).2) (Nat.le_of_lt_succ hm93a))
      refine lv_iload_n hx hb dX6_share_93 rfl (lv_at hl 3 rfl) ?_
      refine lv_if_eq (tgt := 176) hx hb dX6_share_94 (by decide) (fun kc23 => ?_) (fun kc23 => ?_)
      · have kv24 : q_V 0 0 kx9 := q_eq1 vkx9 (q_c (k := 0) (x := 0) (by decide)) kc23 (by decide) (by decide)
        exact jn176a _ _ _ hW ls (lv_sub hl [0, 1, 2] rfl)
      · have kv25 : q_V 1 1 kx9 := q_ne1 vkx9 (q_c (k := 0) (x := 0) (by decide)) kc23 (by decide)
        refine lv_iload hx hb dX6_share_97 (lv_at hl 4 rfl) ?_
        refine lv_aload_n hx hb dX6_share_99 rfl (lv_at hl 0 rfl) ?_
        refine q_getr hE hW h0 rfl q_k6 0 (by decide) rfl (hE.l wl_112) dX6_share_100 (fun kb26 ekb26 hkb26a hkb26b => ?_)
        have hkb26 : q_T G kb26 = 7 := q_tag hkb26a hkb26b
        refine q_geti hE hW hkb26 rfl q_k2 4 (by decide) rfl (hE.n 25 rfl) dX6_share_103 (fun kx27 ekx27 vkx27 => ?_)
        refine lv_icmp_ge (tgt := 176) hx hb dX6_share_106 (by decide) (fun kc28 => ?_) (fun kc28 => ?_)
        · exact jn176a _ _ _ hW ls (lv_sub hl [0, 1, 2] rfl)
        · have kv29 : q_V 0 2 kx10 := (q_lt1 vkx10 vkx27 (Int32.not_le.mp kc28)).w (by decide) (by decide)
          have kv30 : q_V 1 3 kx27 := (q_lt2 vkx10 vkx27 (Int32.not_le.mp kc28)).w (by decide) (by decide)
          refine lv_iload hx hb dX6_share_109 (lv_at hl 4 rfl) ?_
          refine lv_iconst (v := 3) hx hb dX6_share_111 (by decide) ?_
          refine lv_icmp_ge (tgt := 176) hx hb dX6_share_112 (by decide) (fun kc31 => ?_) (fun kc31 => ?_)
          · have kv32 : q_V 3 2 3 := (q_le1 (q_c (k := 3) (x := 3) (by decide)) kv29 kc31).w (by decide) (by decide)
            exact (kv32.no (by decide))
          · refine lv_aload_n hx hb dX6_share_115 rfl (lv_at hl 0 rfl) ?_
            refine q_getr hE hW h0 rfl q_k6 2 (by decide) rfl (hE.l wl_114) dX6_share_116 (fun kb33 ekb33 hkb33a hkb33b => ?_)
            have hkb33 : q_T G kb33 = 18 := q_tag hkb33a hkb33b
            refine lv_iload hx hb dX6_share_119 (lv_at hl 4 rfl) ?_
            refine lv_dup2_11 hx hb dX6_share_121 rfl rfl ?_
            refine q_iald hE hW hkb33 rfl (q_in kv29 (by decide) (by decide)) dX6_share_122 (fun kx34 ekx34 gkx34 => ?_)
            refine lv_iconst (v := 1) hx hb dX6_share_123 (by decide) ?_
            refine lv_iload_n hx hb dX6_share_124 rfl (lv_at hl 1 rfl) ?_
            refine lv_ishl hx hb dX6_share_125 ?_
            refine lv_topi (fun kx35 ekx35 => ?_)
            refine lv_ior hx hb dX6_share_126 ?_
            refine lv_topi (fun kx36 ekx36 => ?_)
            refine q_iast hE hW hkb33 rfl (q_in kv29 (by decide) (by decide)) trivial (by decide) dX6_share_127 (fun H locs ks37 kp38 hW => ?_)
            refine lv_aload_n hx hb dX6_share_128 rfl (lv_at hl 0 rfl) ?_
            refine lv_iload hx hb dX6_share_129 (lv_at hl 4 rfl) ?_
            refine q_goi hW (q_runV (As := [.int kx10]) (rest := []) hE hW (c_X6_isInTime l G ks37 a0 h0 kx10) kw_X6_95 (q_recv hE hW h0 rfl q_k6) rfl hl.1 rfl (Nat.le_of_ble_eq_true rfl) dX6_share_131 ⟨by decide, by decide⟩ ⟨by decide, by decide⟩) (by decide) (fun kx42 ks40 H locs kp39 kf41 hW => ?_)
            refine lv_if_eq (tgt := 155) hx hb dX6_share_134 (by decide) (fun kc43 => ?_) (fun kc43 => ?_)
            · have kv44 : q_V 0 0 kx42 := q_eq1 kp39 (q_c (k := 0) (x := 0) (by decide)) kc43 (by decide) (by decide)
              exact jn155a _ _ _ kv25 kv29 hW ls (lv_sub hl [0, 1, 2, 3, 4] rfl)
            · have kv45 : q_V 1 1 kx42 := q_ne1 kp39 (q_c (k := 0) (x := 0) (by decide)) kc43 (by decide)
              refine lv_aload_n hx hb dX6_share_137 rfl (lv_at hl 0 rfl) ?_
              refine q_getr hE hW h0 rfl q_k6 3 (by decide) rfl (hE.l wl_115) dX6_share_138 (fun kb46 ekb46 hkb46a hkb46b => ?_)
              have hkb46 : q_T G kb46 = 19 := q_tag hkb46a hkb46b
              refine lv_iload_n hx hb dX6_share_141 rfl (lv_at hl 1 rfl) ?_
              refine lv_iload hx hb dX6_share_142 (lv_at hl 4 rfl) ?_
              refine q_iast hE hW hkb46 rfl (q_in w1 (by decide) (by decide)) trivial (by decide) dX6_share_144 (fun H locs ks47 kp48 hW => ?_)
              refine lv_aload_n hx hb dX6_share_145 rfl (lv_at hl 0 rfl) ?_
              refine lv_iload_n hx hb dX6_share_146 rfl (lv_at hl 1 rfl) ?_
              refine lv_iconst (v := 1) hx hb dX6_share_147 (by decide) ?_
              refine lv_iadd hx hb dX6_share_148 ?_
              refine lv_topi (fun kx49 ekx49 => ?_)
              have vkx49 : q_V 5 5 kx49 := by rw [ekx49]; exact (q_add w1 (q_c (k := 1) (x := 1) (by decide)) (by decide) (by decide)).w (by decide) (by decide)
              have ikx49 : kx49.toInt = i1.toInt + 1 := q_incT ekx49 w1 (by decide) (by decide) (by decide)
              refine lv_iload_n hx hb dX6_share_149 rfl (lv_at hl 2 rfl) ?_
              refine lv_iconst (v := 1) hx hb dX6_share_150 (by decide) ?_
              refine lv_iadd hx hb dX6_share_151 ?_
              refine lv_topi (fun kx50 ekx50 => ?_)
              refine q_gov hW (q_runV (As := [.int kx49, .int kx50]) (rest := []) hE hW (c_X6_share_t5 l G ks47 a0 h0 kx49 vkx49 kx50) kw_X6_71 (q_recv hE hW h0 rfl q_k6) rfl hl.1 rfl (Nat.le_of_ble_eq_true rfl) dX6_share_152 ⟨by decide, by decide⟩ ⟨by decide, by decide⟩) (by decide) (fun ks52 H locs kp51 kf53 hW => ?_)
              exact jn155a _ _ _ kv25 kv29 hW ls (lv_sub hl [0, 1, 2, 3, 4] rfl)
  have jn89a : ∀ (ks55 : q_S) (H : Heap) (locs : List Loc) (kx54 : Int32) (vkx54 : q_V 0 1 kx54) (hW : q_Wd G [16, 18, 19, 20] σ s.heap ks55 H locs) (ls : Array Slot) (hl : lv_has ls 5 [(0, .ref a0), (1, .int i1), (2, .int i2)]), W p l e (q_Rm 6) s m args below meth c H locs 0 0 (MQ below (q_Qv G [16, 18, 19, 20] σ (fun σ1 => True)) args s 0 0 (q_N G)) (F0 m 89 ls [.int kx54]) := by
    intro ks55 H locs kx54 vkx54 hW ls hl
    refine lv_istore_n (lv' := [(3, .int kx54), (0, .ref a0), (1, .int i1), (2, .int i2)]) hx hb dX6_share_89 rfl hl (by decide) rfl (fun ls hl => ?_)
    refine lv_iconst (v := 0) hx hb dX6_share_90 (by decide) ?_
    refine lv_istore (lv' := [(4, .int 0), (3, .int kx54), (0, .ref a0), (1, .int i1), (2, .int i2)]) hx hb dX6_share_91 hl (by decide) rfl (fun ls hl => ?_)
    exact lp93a _ _ _ _ kx54 vkx54 0 ((q_c (k := 0) (x := 0) (by decide)).w (by decide) (by decide)) hW ls (lv_sub hl [2, 3, 4, 1, 0] rfl) (Nat.lt_succ_self _)
  have jn21a : ∀ (ks56 : q_S) (H : Heap) (locs : List Loc) (hW : q_Wd G [16, 18, 19, 20] σ s.heap ks56 H locs) (ls : Array Slot) (hl : lv_has ls 5 [(0, .ref a0), (2, .int i2)]), W p l e (q_Rm 6) s m args below meth c H locs 0 0 (MQ below (q_Qv G [16, 18, 19, 20] σ (fun σ1 => True)) args s 0 0 (q_N G)) (F0 m 21 ls []) := by
    intro ks56 H locs hW ls hl
    refine lv_iload_n hx hb dX6_share_21 rfl (lv_at hl 1 rfl) ?_
    refine lv_aload_n hx hb dX6_share_22 rfl (lv_at hl 0 rfl) ?_
    refine q_geti hE hW h0 rfl q_k6 6 (by decide) rfl (hE.l wl_834) dX6_share_23 (fun kx57 ekx57 vkx57 => ?_)
    refine lv_icmp_le (tgt := 49) hx hb dX6_share_26 (by decide) (fun kc58 => ?_) (fun kc58 => ?_)
    · exact q_retv hE hr hlocks hW (trivial) dX6_share_49
    · have kv59 : q_V (-2147483648) 2147483646 kx57 := (q_lt1 (q_all kx57) (q_all i2) (Int32.not_le.mp kc58)).w (by decide) (by decide)
      have kv60 : q_V (-2147483647) 2147483647 i2 := (q_lt2 (q_all kx57) (q_all i2) (Int32.not_le.mp kc58)).w (by decide) (by decide)
      refine lv_aload_n hx hb dX6_share_29 rfl (lv_at hl 0 rfl) ?_
      refine lv_iload_n hx hb dX6_share_30 rfl (lv_at hl 1 rfl) ?_
      refine q_puti hE hW h0 rfl q_k6 tyX6 tyX6_ok 6 (by decide) rfl (hE.l wl_834) rfl rfl rfl (kv60.w (by decide) (by decide)) (by decide) dX6_share_31 (fun H locs ks61 kp62 hW => ?_)
      refine lv_aload_n hx hb dX6_share_34 rfl (lv_at hl 0 rfl) ?_
      refine q_getr hE hW h0 rfl q_k6 3 (by decide) rfl (hE.l wl_115) dX6_share_35 (fun kb63 ekb63 hkb63a hkb63b => ?_)
      have hkb63 : q_T G kb63 = 19 := q_tag hkb63a hkb63b
      refine lv_iconst (v := 0) hx hb dX6_share_38 (by decide) ?_
      refine lv_aload_n hx hb dX6_share_39 rfl (lv_at hl 0 rfl) ?_
      refine q_getr hE hW h0 rfl q_k6 4 (by decide) rfl (hE.l wl_116) dX6_share_40 (fun kb64 ekb64 hkb64a hkb64b => ?_)
      have hkb64 : q_T G kb64 = 20 := q_tag hkb64a hkb64b
      refine lv_iconst (v := 0) hx hb dX6_share_43 (by decide) ?_
      refine lv_bipush (v := 6) hx hb dX6_share_44 (by decide) ?_
      refine q_acopy hE hW hkb63 hkb64 rfl rfl (Or.inl rfl) (by decide) (by decide) (by decide) (by decide) (by decide) (fun _ _ _ _ => trivial) (by decide) wl_850 wl_201 wl_202 wl_203 hl.1 (by decide) (Nat.le_of_ble_eq_true rfl) dX6_share_46 (fun H locs ks65 kp66 hW => ?_)
      exact q_retv hE hr hlocks hW (trivial) dX6_share_49
  refine lv_iload_n hx hb dX6_share_0 rfl (lv_at hl 1 rfl) ?_
  refine lv_if_lt (tgt := 21) hx hb dX6_share_1 (by decide) (fun kc67 => ?_) (fun kc67 => ?_)
  · have kv68 : q_V 4 (-1) i1 := (q_lt1 w1 (q_c (k := 0) (x := 0) (by decide)) kc67).w (by decide) (by decide)
    exact (kv68.no (by decide))
  · refine lv_iload_n hx hb dX6_share_4 rfl (lv_at hl 1 rfl) ?_
    refine lv_aload_n hx hb dX6_share_5 rfl (lv_at hl 0 rfl) ?_
    refine q_getr hE hW h0 rfl q_k6 0 (by decide) rfl (hE.l wl_112) dX6_share_6 (fun kb69 ekb69 hkb69a hkb69b => ?_)
    have hkb69 : q_T G kb69 = 7 := q_tag hkb69a hkb69b
    refine q_geti hE hW hkb69 rfl q_k2 1 (by decide) rfl (hE.n 19 rfl) dX6_share_9 (fun kx70 ekx70 vkx70 => ?_)
    refine lv_icmp_ge (tgt := 21) hx hb dX6_share_12 (by decide) (fun kc71 => ?_) (fun kc71 => ?_)
    · have kv72 : q_V 0 4 kx70 := (q_le1 vkx70 w1 kc71).w (by decide) (by decide)
      exact jn21a _ _ _ hW ls (lv_sub hl [0, 2] rfl)
    · have kv73 : q_V 5 6 kx70 := (q_lt2 w1 vkx70 (Int32.not_le.mp kc71)).w (by decide) (by decide)
      refine lv_iload_n hx hb dX6_share_15 rfl (lv_at hl 1 rfl) ?_
      refine lv_bipush (v := 6) hx hb dX6_share_16 (by decide) ?_
      refine lv_icmp_lt (tgt := 50) hx hb dX6_share_18 (by decide) (fun kc74 => ?_) (fun kc74 => ?_)
      · refine lv_iload_n hx hb dX6_share_50 rfl (lv_at hl 2 rfl) ?_
        refine lv_aload_n hx hb dX6_share_51 rfl (lv_at hl 0 rfl) ?_
        refine q_getr hE hW h0 rfl q_k6 0 (by decide) rfl (hE.l wl_112) dX6_share_52 (fun kb75 ekb75 hkb75a hkb75b => ?_)
        obtain rfl : kb69 = kb75 := ekb69.symm.trans ekb75
        refine q_geti hE hW hkb69 rfl q_k2 1 (by decide) rfl (hE.n 19 rfl) dX6_share_55 (fun kx76 ekx76 vkx76 => ?_)
        obtain rfl : kx70 = kx76 := ekx70.symm.trans ekx76
        refine lv_iadd hx hb dX6_share_58 ?_
        refine lv_topi (fun kx77 ekx77 => ?_)
        refine lv_iload_n hx hb dX6_share_59 rfl (lv_at hl 1 rfl) ?_
        refine lv_isub hx hb dX6_share_60 ?_
        refine lv_topi (fun kx78 ekx78 => ?_)
        refine lv_aload_n hx hb dX6_share_61 rfl (lv_at hl 0 rfl) ?_
        refine q_geti hE hW h0 rfl q_k6 6 (by decide) rfl (hE.l wl_834) dX6_share_62 (fun kx79 ekx79 vkx79 => ?_)
        refine lv_icmp_gt (tgt := 69) hx hb dX6_share_65 (by decide) (fun kc80 => ?_) (fun kc80 => ?_)
        · have kv81 : q_V (-2147483648) 2147483646 kx79 := (q_lt1 (q_all kx79) (q_all kx78) kc80).w (by decide) (by decide)
          have kv82 : q_V (-2147483647) 2147483647 kx78 := (q_lt2 (q_all kx79) (q_all kx78) kc80).w (by decide) (by decide)
          refine lv_aload_n hx hb dX6_share_69 rfl (lv_at hl 0 rfl) ?_
          refine q_getr hE hW h0 rfl q_k6 0 (by decide) rfl (hE.l wl_112) dX6_share_70 (fun kb83 ekb83 hkb83a hkb83b => ?_)
          obtain rfl : kb69 = kb83 := ekb69.symm.trans ekb83
          refine q_getr hE hW hkb69 rfl q_k2 0 (by decide) rfl (hE.n 17 rfl) dX6_share_73 (fun kb84 ekb84 hkb84a hkb84b => ?_)
          have hkb84 : q_T G kb84 = 8 := q_tag hkb84a hkb84b
          refine lv_iload_n hx hb dX6_share_76 rfl (lv_at hl 1 rfl) ?_
          refine q_aald hE hW hkb84 rfl (q_in w1 (by decide) (by decide)) dX6_share_77 (fun kb85 ekb85 hkb85a hkb85b => ?_)
          have hkb85 : q_T G kb85 = 5 := q_tag hkb85a hkb85b
          refine q_geti hE hW hkb85 rfl q_k1 3 (by decide) rfl (hE.n 10 rfl) dX6_share_78 (fun kx86 ekx86 vkx86 => ?_)
          refine lv_if_ne (tgt := 88) hx hb dX6_share_81 (by decide) (fun kc87 => ?_) (fun kc87 => ?_)
          · refine lv_iconst (v := 0) hx hb dX6_share_88 (by decide) ?_
            exact jn89a _ _ _ 0 ((q_c (k := 0) (x := 0) (by decide)).w (by decide) (by decide)) hW ls (lv_sub hl [0, 1, 2] rfl)
          · have kv88 : q_V 0 0 kx86 := q_eq1 (q_all kx86) (q_c (k := 0) (x := 0) (by decide)) kc87 (by decide) (by decide)
            refine lv_iconst (v := 1) hx hb dX6_share_84 (by decide) ?_
            refine lv_goto (tgt := 89) hx hb dX6_share_85 (by decide) ?_
            exact jn89a _ _ _ 1 ((q_c (k := 1) (x := 1) (by decide)).w (by decide) (by decide)) hW ls (lv_sub hl [0, 1, 2] rfl)
        · exact q_retv hE hr hlocks hW (trivial) dX6_share_68
      · have kv89 : q_V 6 4 6 := (q_le1 (q_c (k := 6) (x := 6) (by decide)) w1 (Int32.not_lt.mp kc74)).w (by decide) (by decide)
        exact (kv89.no (by decide))
set_option maxHeartbeats 4000000 in
set_option maxRecDepth 100000 in
theorem c_X6_share_t3 (l : Launch) (G : q_G) (σ : q_S) (a0 : Nat) (h0 : q_T G a0 = 16) (i1 : Int32) (w1 : q_V 3 3 i1) (i2 : Int32)  : Met l yX6_share (Cond.code yX6_share cX6_share 5 none :: wsL_law) (q_Rm 7) (q_Pre G σ [.ref a0, .int i1, .int i2]) (q_Qv G [16, 18, 19, 20] σ (fun σ1 => True)) 0 0 (q_N G) := by
  refine q_ofW (ts := [16, 18, 19, 20]) (by decide) (Nat.le_of_ble_eq_true rfl) ?_
  intro p e s m args below meth c hE hr hlocks hW ls hl
  have hE : q_E G p s m args c cX6_share 5 RX6 := hE
  have hx := hE.1.1
  have hb := hE.1.2.1
  have hl : lv_has ls 5 [(0, .ref a0), (1, .int i1), (2, .int i2)] := hl
  have jn176a : ∀ (ks1 : q_S) (H : Heap) (locs : List Loc) (hW : q_Wd G [16, 18, 19, 20] σ s.heap ks1 H locs) (ls : Array Slot) (hl : lv_has ls 5 [(0, .ref a0), (1, .int i1), (2, .int i2)]), W p l e (q_Rm 7) s m args below meth c H locs 0 0 (MQ below (q_Qv G [16, 18, 19, 20] σ (fun σ1 => True)) args s 0 0 (q_N G)) (F0 m 176 ls []) := by
    intro ks1 H locs hW ls hl
    refine lv_aload_n hx hb dX6_share_176 rfl (lv_at hl 0 rfl) ?_
    refine q_getr hE hW h0 rfl q_k6 3 (by decide) rfl (hE.l wl_115) dX6_share_177 (fun kb2 ekb2 hkb2a hkb2b => ?_)
    have hkb2 : q_T G kb2 = 19 := q_tag hkb2a hkb2b
    refine lv_iload_n hx hb dX6_share_180 rfl (lv_at hl 1 rfl) ?_
    refine lv_iconst (v := (-1)) hx hb dX6_share_181 (by decide) ?_
    refine q_iast hE hW hkb2 rfl (q_in w1 (by decide) (by decide)) trivial (by decide) dX6_share_182 (fun H locs ks3 kp4 hW => ?_)
    refine lv_aload_n hx hb dX6_share_183 rfl (lv_at hl 0 rfl) ?_
    refine lv_iload_n hx hb dX6_share_184 rfl (lv_at hl 1 rfl) ?_
    refine lv_iconst (v := 1) hx hb dX6_share_185 (by decide) ?_
    refine lv_iadd hx hb dX6_share_186 ?_
    refine lv_topi (fun kx5 ekx5 => ?_)
    have vkx5 : q_V 4 4 kx5 := by rw [ekx5]; exact (q_add w1 (q_c (k := 1) (x := 1) (by decide)) (by decide) (by decide)).w (by decide) (by decide)
    have ikx5 : kx5.toInt = i1.toInt + 1 := q_incT ekx5 w1 (by decide) (by decide) (by decide)
    refine lv_iload_n hx hb dX6_share_187 rfl (lv_at hl 2 rfl) ?_
    refine q_gov hW (q_runV (As := [.int kx5, .int i2]) (rest := []) hE hW (c_X6_share_t4 l G ks3 a0 h0 kx5 vkx5 i2) kw_X6_71 (q_recv hE hW h0 rfl q_k6) rfl hl.1 rfl (Nat.le_of_ble_eq_true rfl) dX6_share_188 ⟨by decide, by decide⟩ ⟨by decide, by decide⟩) (by decide) (fun ks7 H locs kp6 kf8 hW => ?_)
    exact q_retv hE hr hlocks hW (trivial) dX6_share_191
  have lp93a : ∀ (n93a : Nat) (ks11 : q_S) (H : Heap) (locs : List Loc) (kx9 : Int32) (vkx9 : q_V 0 1 kx9) (kx10 : Int32) (vkx10 : q_V 0 3 kx10) (hW : q_Wd G [16, 18, 19, 20] σ s.heap ks11 H locs) (ls : Array Slot) (hl : lv_has ls 5 [(0, .ref a0), (1, .int i1), (2, .int i2), (3, .int kx9), (4, .int kx10)]), (3 - kx10.toInt).toNat < n93a → W p l e (q_Rm 7) s m args below meth c H locs 0 0 (MQ below (q_Qv G [16, 18, 19, 20] σ (fun σ1 => True)) args s 0 0 (q_N G)) (F0 m 93 ls []) := by
    intro n93a
    induction n93a with
    | zero => intro _ _ _ _ _ _ _ _ _ _; exact fun h => absurd h (Nat.not_lt_zero _)
    | succ n93a ih93a =>
      intro ks11 H locs kx9 vkx9 kx10 vkx10 hW ls hl hm93a
      have jn155a : ∀ (ks14 : q_S) (H : Heap) (locs : List Loc) (kv12 : q_V 1 1 kx9) (kv13 : q_V 0 2 kx10) (hW : q_Wd G [16, 18, 19, 20] σ s.heap ks14 H locs) (ls : Array Slot) (hl : lv_has ls 5 [(0, .ref a0), (1, .int i1), (2, .int i2), (3, .int kx9), (4, .int kx10)]), W p l e (q_Rm 7) s m args below meth c H locs 0 0 (MQ below (q_Qv G [16, 18, 19, 20] σ (fun σ1 => True)) args s 0 0 (q_N G)) (F0 m 155 ls []) := by
        intro ks14 H locs kv12 kv13 hW ls hl
        refine lv_aload_n hx hb dX6_share_155 rfl (lv_at hl 0 rfl) ?_
        refine q_getr hE hW h0 rfl q_k6 2 (by decide) rfl (hE.l wl_114) dX6_share_156 (fun kb15 ekb15 hkb15a hkb15b => ?_)
        have hkb15 : q_T G kb15 = 18 := q_tag hkb15a hkb15b
        refine lv_iload hx hb dX6_share_159 (lv_at hl 4 rfl) ?_
        refine lv_dup2_11 hx hb dX6_share_161 rfl rfl ?_
        refine q_iald hE hW hkb15 rfl (q_in kv13 (by decide) (by decide)) dX6_share_162 (fun kx16 ekx16 gkx16 => ?_)
        refine lv_iconst (v := 1) hx hb dX6_share_163 (by decide) ?_
        refine lv_iload_n hx hb dX6_share_164 rfl (lv_at hl 1 rfl) ?_
        refine lv_ishl hx hb dX6_share_165 ?_
        refine lv_topi (fun kx17 ekx17 => ?_)
        refine lv_iconst (v := (-1)) hx hb dX6_share_166 (by decide) ?_
        refine lv_ixor hx hb dX6_share_167 ?_
        refine lv_topi (fun kx18 ekx18 => ?_)
        refine lv_iand hx hb dX6_share_168 ?_
        refine lv_topi (fun kx19 ekx19 => ?_)
        refine q_iast hE hW hkb15 rfl (q_in kv13 (by decide) (by decide)) trivial (by decide) dX6_share_169 (fun H locs ks20 kp21 hW => ?_)
        obtain ⟨kx22, ekx22⟩ : ∃ y : Int32, y = kx10 + 1 := ⟨_, rfl⟩
        have vkx22 : q_V 1 3 kx22 := by rw [ekx22]; exact (q_add kv13 (q_c (k := 1) (x := 1) (by decide)) (by decide) (by decide)).w (by decide) (by decide)
        have ikx22 : kx22.toInt = kx10.toInt + 1 := q_incT ekx22 kv13 (by decide) (by decide) (by decide)
        refine lv_iinc (v := kx22) (lv' := [(4, .int kx22), (0, .ref a0), (1, .int i1), (2, .int i2), (3, .int kx9)]) hx hb dX6_share_170 hl (k := 4) rfl (by rw [ekx22]; rfl) (by decide) rfl (fun ls hl => ?_)
        refine lv_goto (tgt := 93) hx hb dX6_share_173 (by decide) ?_
        exact ih93a _ _ _ kx9 (kv12.w (by decide) (by decide)) kx22 (vkx22.w (by decide) (by decide)) hW ls (lv_sub hl [1, 2, 3, 4, 0] rfl) (Nat.lt_of_lt_of_le (q_up (ikx22) (show q_V 1 3 kx22 from vkx22).2) (Nat.le_of_lt_succ hm93a))
      refine lv_iload_n hx hb dX6_share_93 rfl (lv_at hl 3 rfl) ?_
      refine lv_if_eq (tgt := 176) hx hb dX6_share_94 (by decide) (fun kc23 => ?_) (fun kc23 => ?_)
      · have kv24 : q_V 0 0 kx9 := q_eq1 vkx9 (q_c (k := 0) (x := 0) (by decide)) kc23 (by decide) (by decide)
        exact jn176a _ _ _ hW ls (lv_sub hl [0, 1, 2] rfl)
      · have kv25 : q_V 1 1 kx9 := q_ne1 vkx9 (q_c (k := 0) (x := 0) (by decide)) kc23 (by decide)
        refine lv_iload hx hb dX6_share_97 (lv_at hl 4 rfl) ?_
        refine lv_aload_n hx hb dX6_share_99 rfl (lv_at hl 0 rfl) ?_
        refine q_getr hE hW h0 rfl q_k6 0 (by decide) rfl (hE.l wl_112) dX6_share_100 (fun kb26 ekb26 hkb26a hkb26b => ?_)
        have hkb26 : q_T G kb26 = 7 := q_tag hkb26a hkb26b
        refine q_geti hE hW hkb26 rfl q_k2 4 (by decide) rfl (hE.n 25 rfl) dX6_share_103 (fun kx27 ekx27 vkx27 => ?_)
        refine lv_icmp_ge (tgt := 176) hx hb dX6_share_106 (by decide) (fun kc28 => ?_) (fun kc28 => ?_)
        · exact jn176a _ _ _ hW ls (lv_sub hl [0, 1, 2] rfl)
        · have kv29 : q_V 0 2 kx10 := (q_lt1 vkx10 vkx27 (Int32.not_le.mp kc28)).w (by decide) (by decide)
          have kv30 : q_V 1 3 kx27 := (q_lt2 vkx10 vkx27 (Int32.not_le.mp kc28)).w (by decide) (by decide)
          refine lv_iload hx hb dX6_share_109 (lv_at hl 4 rfl) ?_
          refine lv_iconst (v := 3) hx hb dX6_share_111 (by decide) ?_
          refine lv_icmp_ge (tgt := 176) hx hb dX6_share_112 (by decide) (fun kc31 => ?_) (fun kc31 => ?_)
          · have kv32 : q_V 3 2 3 := (q_le1 (q_c (k := 3) (x := 3) (by decide)) kv29 kc31).w (by decide) (by decide)
            exact (kv32.no (by decide))
          · refine lv_aload_n hx hb dX6_share_115 rfl (lv_at hl 0 rfl) ?_
            refine q_getr hE hW h0 rfl q_k6 2 (by decide) rfl (hE.l wl_114) dX6_share_116 (fun kb33 ekb33 hkb33a hkb33b => ?_)
            have hkb33 : q_T G kb33 = 18 := q_tag hkb33a hkb33b
            refine lv_iload hx hb dX6_share_119 (lv_at hl 4 rfl) ?_
            refine lv_dup2_11 hx hb dX6_share_121 rfl rfl ?_
            refine q_iald hE hW hkb33 rfl (q_in kv29 (by decide) (by decide)) dX6_share_122 (fun kx34 ekx34 gkx34 => ?_)
            refine lv_iconst (v := 1) hx hb dX6_share_123 (by decide) ?_
            refine lv_iload_n hx hb dX6_share_124 rfl (lv_at hl 1 rfl) ?_
            refine lv_ishl hx hb dX6_share_125 ?_
            refine lv_topi (fun kx35 ekx35 => ?_)
            refine lv_ior hx hb dX6_share_126 ?_
            refine lv_topi (fun kx36 ekx36 => ?_)
            refine q_iast hE hW hkb33 rfl (q_in kv29 (by decide) (by decide)) trivial (by decide) dX6_share_127 (fun H locs ks37 kp38 hW => ?_)
            refine lv_aload_n hx hb dX6_share_128 rfl (lv_at hl 0 rfl) ?_
            refine lv_iload hx hb dX6_share_129 (lv_at hl 4 rfl) ?_
            refine q_goi hW (q_runV (As := [.int kx10]) (rest := []) hE hW (c_X6_isInTime l G ks37 a0 h0 kx10) kw_X6_95 (q_recv hE hW h0 rfl q_k6) rfl hl.1 rfl (Nat.le_of_ble_eq_true rfl) dX6_share_131 ⟨by decide, by decide⟩ ⟨by decide, by decide⟩) (by decide) (fun kx42 ks40 H locs kp39 kf41 hW => ?_)
            refine lv_if_eq (tgt := 155) hx hb dX6_share_134 (by decide) (fun kc43 => ?_) (fun kc43 => ?_)
            · have kv44 : q_V 0 0 kx42 := q_eq1 kp39 (q_c (k := 0) (x := 0) (by decide)) kc43 (by decide) (by decide)
              exact jn155a _ _ _ kv25 kv29 hW ls (lv_sub hl [0, 1, 2, 3, 4] rfl)
            · have kv45 : q_V 1 1 kx42 := q_ne1 kp39 (q_c (k := 0) (x := 0) (by decide)) kc43 (by decide)
              refine lv_aload_n hx hb dX6_share_137 rfl (lv_at hl 0 rfl) ?_
              refine q_getr hE hW h0 rfl q_k6 3 (by decide) rfl (hE.l wl_115) dX6_share_138 (fun kb46 ekb46 hkb46a hkb46b => ?_)
              have hkb46 : q_T G kb46 = 19 := q_tag hkb46a hkb46b
              refine lv_iload_n hx hb dX6_share_141 rfl (lv_at hl 1 rfl) ?_
              refine lv_iload hx hb dX6_share_142 (lv_at hl 4 rfl) ?_
              refine q_iast hE hW hkb46 rfl (q_in w1 (by decide) (by decide)) trivial (by decide) dX6_share_144 (fun H locs ks47 kp48 hW => ?_)
              refine lv_aload_n hx hb dX6_share_145 rfl (lv_at hl 0 rfl) ?_
              refine lv_iload_n hx hb dX6_share_146 rfl (lv_at hl 1 rfl) ?_
              refine lv_iconst (v := 1) hx hb dX6_share_147 (by decide) ?_
              refine lv_iadd hx hb dX6_share_148 ?_
              refine lv_topi (fun kx49 ekx49 => ?_)
              have vkx49 : q_V 4 4 kx49 := by rw [ekx49]; exact (q_add w1 (q_c (k := 1) (x := 1) (by decide)) (by decide) (by decide)).w (by decide) (by decide)
              have ikx49 : kx49.toInt = i1.toInt + 1 := q_incT ekx49 w1 (by decide) (by decide) (by decide)
              refine lv_iload_n hx hb dX6_share_149 rfl (lv_at hl 2 rfl) ?_
              refine lv_iconst (v := 1) hx hb dX6_share_150 (by decide) ?_
              refine lv_iadd hx hb dX6_share_151 ?_
              refine lv_topi (fun kx50 ekx50 => ?_)
              refine q_gov hW (q_runV (As := [.int kx49, .int kx50]) (rest := []) hE hW (c_X6_share_t4 l G ks47 a0 h0 kx49 vkx49 kx50) kw_X6_71 (q_recv hE hW h0 rfl q_k6) rfl hl.1 rfl (Nat.le_of_ble_eq_true rfl) dX6_share_152 ⟨by decide, by decide⟩ ⟨by decide, by decide⟩) (by decide) (fun ks52 H locs kp51 kf53 hW => ?_)
              exact jn155a _ _ _ kv25 kv29 hW ls (lv_sub hl [0, 1, 2, 3, 4] rfl)
  have jn89a : ∀ (ks55 : q_S) (H : Heap) (locs : List Loc) (kx54 : Int32) (vkx54 : q_V 0 1 kx54) (hW : q_Wd G [16, 18, 19, 20] σ s.heap ks55 H locs) (ls : Array Slot) (hl : lv_has ls 5 [(0, .ref a0), (1, .int i1), (2, .int i2)]), W p l e (q_Rm 7) s m args below meth c H locs 0 0 (MQ below (q_Qv G [16, 18, 19, 20] σ (fun σ1 => True)) args s 0 0 (q_N G)) (F0 m 89 ls [.int kx54]) := by
    intro ks55 H locs kx54 vkx54 hW ls hl
    refine lv_istore_n (lv' := [(3, .int kx54), (0, .ref a0), (1, .int i1), (2, .int i2)]) hx hb dX6_share_89 rfl hl (by decide) rfl (fun ls hl => ?_)
    refine lv_iconst (v := 0) hx hb dX6_share_90 (by decide) ?_
    refine lv_istore (lv' := [(4, .int 0), (3, .int kx54), (0, .ref a0), (1, .int i1), (2, .int i2)]) hx hb dX6_share_91 hl (by decide) rfl (fun ls hl => ?_)
    exact lp93a _ _ _ _ kx54 vkx54 0 ((q_c (k := 0) (x := 0) (by decide)).w (by decide) (by decide)) hW ls (lv_sub hl [2, 3, 4, 1, 0] rfl) (Nat.lt_succ_self _)
  have jn21a : ∀ (ks56 : q_S) (H : Heap) (locs : List Loc) (hW : q_Wd G [16, 18, 19, 20] σ s.heap ks56 H locs) (ls : Array Slot) (hl : lv_has ls 5 [(0, .ref a0), (2, .int i2)]), W p l e (q_Rm 7) s m args below meth c H locs 0 0 (MQ below (q_Qv G [16, 18, 19, 20] σ (fun σ1 => True)) args s 0 0 (q_N G)) (F0 m 21 ls []) := by
    intro ks56 H locs hW ls hl
    refine lv_iload_n hx hb dX6_share_21 rfl (lv_at hl 1 rfl) ?_
    refine lv_aload_n hx hb dX6_share_22 rfl (lv_at hl 0 rfl) ?_
    refine q_geti hE hW h0 rfl q_k6 6 (by decide) rfl (hE.l wl_834) dX6_share_23 (fun kx57 ekx57 vkx57 => ?_)
    refine lv_icmp_le (tgt := 49) hx hb dX6_share_26 (by decide) (fun kc58 => ?_) (fun kc58 => ?_)
    · exact q_retv hE hr hlocks hW (trivial) dX6_share_49
    · have kv59 : q_V (-2147483648) 2147483646 kx57 := (q_lt1 (q_all kx57) (q_all i2) (Int32.not_le.mp kc58)).w (by decide) (by decide)
      have kv60 : q_V (-2147483647) 2147483647 i2 := (q_lt2 (q_all kx57) (q_all i2) (Int32.not_le.mp kc58)).w (by decide) (by decide)
      refine lv_aload_n hx hb dX6_share_29 rfl (lv_at hl 0 rfl) ?_
      refine lv_iload_n hx hb dX6_share_30 rfl (lv_at hl 1 rfl) ?_
      refine q_puti hE hW h0 rfl q_k6 tyX6 tyX6_ok 6 (by decide) rfl (hE.l wl_834) rfl rfl rfl (kv60.w (by decide) (by decide)) (by decide) dX6_share_31 (fun H locs ks61 kp62 hW => ?_)
      refine lv_aload_n hx hb dX6_share_34 rfl (lv_at hl 0 rfl) ?_
      refine q_getr hE hW h0 rfl q_k6 3 (by decide) rfl (hE.l wl_115) dX6_share_35 (fun kb63 ekb63 hkb63a hkb63b => ?_)
      have hkb63 : q_T G kb63 = 19 := q_tag hkb63a hkb63b
      refine lv_iconst (v := 0) hx hb dX6_share_38 (by decide) ?_
      refine lv_aload_n hx hb dX6_share_39 rfl (lv_at hl 0 rfl) ?_
      refine q_getr hE hW h0 rfl q_k6 4 (by decide) rfl (hE.l wl_116) dX6_share_40 (fun kb64 ekb64 hkb64a hkb64b => ?_)
      have hkb64 : q_T G kb64 = 20 := q_tag hkb64a hkb64b
      refine lv_iconst (v := 0) hx hb dX6_share_43 (by decide) ?_
      refine lv_bipush (v := 6) hx hb dX6_share_44 (by decide) ?_
      refine q_acopy hE hW hkb63 hkb64 rfl rfl (Or.inl rfl) (by decide) (by decide) (by decide) (by decide) (by decide) (fun _ _ _ _ => trivial) (by decide) wl_850 wl_201 wl_202 wl_203 hl.1 (by decide) (Nat.le_of_ble_eq_true rfl) dX6_share_46 (fun H locs ks65 kp66 hW => ?_)
      exact q_retv hE hr hlocks hW (trivial) dX6_share_49
  refine lv_iload_n hx hb dX6_share_0 rfl (lv_at hl 1 rfl) ?_
  refine lv_if_lt (tgt := 21) hx hb dX6_share_1 (by decide) (fun kc67 => ?_) (fun kc67 => ?_)
  · have kv68 : q_V 3 (-1) i1 := (q_lt1 w1 (q_c (k := 0) (x := 0) (by decide)) kc67).w (by decide) (by decide)
    exact (kv68.no (by decide))
  · refine lv_iload_n hx hb dX6_share_4 rfl (lv_at hl 1 rfl) ?_
    refine lv_aload_n hx hb dX6_share_5 rfl (lv_at hl 0 rfl) ?_
    refine q_getr hE hW h0 rfl q_k6 0 (by decide) rfl (hE.l wl_112) dX6_share_6 (fun kb69 ekb69 hkb69a hkb69b => ?_)
    have hkb69 : q_T G kb69 = 7 := q_tag hkb69a hkb69b
    refine q_geti hE hW hkb69 rfl q_k2 1 (by decide) rfl (hE.n 19 rfl) dX6_share_9 (fun kx70 ekx70 vkx70 => ?_)
    refine lv_icmp_ge (tgt := 21) hx hb dX6_share_12 (by decide) (fun kc71 => ?_) (fun kc71 => ?_)
    · have kv72 : q_V 0 3 kx70 := (q_le1 vkx70 w1 kc71).w (by decide) (by decide)
      exact jn21a _ _ _ hW ls (lv_sub hl [0, 2] rfl)
    · have kv73 : q_V 4 6 kx70 := (q_lt2 w1 vkx70 (Int32.not_le.mp kc71)).w (by decide) (by decide)
      refine lv_iload_n hx hb dX6_share_15 rfl (lv_at hl 1 rfl) ?_
      refine lv_bipush (v := 6) hx hb dX6_share_16 (by decide) ?_
      refine lv_icmp_lt (tgt := 50) hx hb dX6_share_18 (by decide) (fun kc74 => ?_) (fun kc74 => ?_)
      · refine lv_iload_n hx hb dX6_share_50 rfl (lv_at hl 2 rfl) ?_
        refine lv_aload_n hx hb dX6_share_51 rfl (lv_at hl 0 rfl) ?_
        refine q_getr hE hW h0 rfl q_k6 0 (by decide) rfl (hE.l wl_112) dX6_share_52 (fun kb75 ekb75 hkb75a hkb75b => ?_)
        obtain rfl : kb69 = kb75 := ekb69.symm.trans ekb75
        refine q_geti hE hW hkb69 rfl q_k2 1 (by decide) rfl (hE.n 19 rfl) dX6_share_55 (fun kx76 ekx76 vkx76 => ?_)
        obtain rfl : kx70 = kx76 := ekx70.symm.trans ekx76
        refine lv_iadd hx hb dX6_share_58 ?_
        refine lv_topi (fun kx77 ekx77 => ?_)
        refine lv_iload_n hx hb dX6_share_59 rfl (lv_at hl 1 rfl) ?_
        refine lv_isub hx hb dX6_share_60 ?_
        refine lv_topi (fun kx78 ekx78 => ?_)
        refine lv_aload_n hx hb dX6_share_61 rfl (lv_at hl 0 rfl) ?_
        refine q_geti hE hW h0 rfl q_k6 6 (by decide) rfl (hE.l wl_834) dX6_share_62 (fun kx79 ekx79 vkx79 => ?_)
        refine lv_icmp_gt (tgt := 69) hx hb dX6_share_65 (by decide) (fun kc80 => ?_) (fun kc80 => ?_)
        · have kv81 : q_V (-2147483648) 2147483646 kx79 := (q_lt1 (q_all kx79) (q_all kx78) kc80).w (by decide) (by decide)
          have kv82 : q_V (-2147483647) 2147483647 kx78 := (q_lt2 (q_all kx79) (q_all kx78) kc80).w (by decide) (by decide)
          refine lv_aload_n hx hb dX6_share_69 rfl (lv_at hl 0 rfl) ?_
          refine q_getr hE hW h0 rfl q_k6 0 (by decide) rfl (hE.l wl_112) dX6_share_70 (fun kb83 ekb83 hkb83a hkb83b => ?_)
          obtain rfl : kb69 = kb83 := ekb69.symm.trans ekb83
          refine q_getr hE hW hkb69 rfl q_k2 0 (by decide) rfl (hE.n 17 rfl) dX6_share_73 (fun kb84 ekb84 hkb84a hkb84b => ?_)
          have hkb84 : q_T G kb84 = 8 := q_tag hkb84a hkb84b
          refine lv_iload_n hx hb dX6_share_76 rfl (lv_at hl 1 rfl) ?_
          refine q_aald hE hW hkb84 rfl (q_in w1 (by decide) (by decide)) dX6_share_77 (fun kb85 ekb85 hkb85a hkb85b => ?_)
          have hkb85 : q_T G kb85 = 5 := q_tag hkb85a hkb85b
          refine q_geti hE hW hkb85 rfl q_k1 3 (by decide) rfl (hE.n 10 rfl) dX6_share_78 (fun kx86 ekx86 vkx86 => ?_)
          refine lv_if_ne (tgt := 88) hx hb dX6_share_81 (by decide) (fun kc87 => ?_) (fun kc87 => ?_)
          · refine lv_iconst (v := 0) hx hb dX6_share_88 (by decide) ?_
            exact jn89a _ _ _ 0 ((q_c (k := 0) (x := 0) (by decide)).w (by decide) (by decide)) hW ls (lv_sub hl [0, 1, 2] rfl)
          · have kv88 : q_V 0 0 kx86 := q_eq1 (q_all kx86) (q_c (k := 0) (x := 0) (by decide)) kc87 (by decide) (by decide)
            refine lv_iconst (v := 1) hx hb dX6_share_84 (by decide) ?_
            refine lv_goto (tgt := 89) hx hb dX6_share_85 (by decide) ?_
            exact jn89a _ _ _ 1 ((q_c (k := 1) (x := 1) (by decide)).w (by decide) (by decide)) hW ls (lv_sub hl [0, 1, 2] rfl)
        · exact q_retv hE hr hlocks hW (trivial) dX6_share_68
      · have kv89 : q_V 6 3 6 := (q_le1 (q_c (k := 6) (x := 6) (by decide)) w1 (Int32.not_lt.mp kc74)).w (by decide) (by decide)
        exact (kv89.no (by decide))
set_option maxHeartbeats 4000000 in
set_option maxRecDepth 100000 in
theorem c_X6_share_t2 (l : Launch) (G : q_G) (σ : q_S) (a0 : Nat) (h0 : q_T G a0 = 16) (i1 : Int32) (w1 : q_V 2 2 i1) (i2 : Int32)  : Met l yX6_share (Cond.code yX6_share cX6_share 5 none :: wsL_law) (q_Rm 8) (q_Pre G σ [.ref a0, .int i1, .int i2]) (q_Qv G [16, 18, 19, 20] σ (fun σ1 => True)) 0 0 (q_N G) := by
  refine q_ofW (ts := [16, 18, 19, 20]) (by decide) (Nat.le_of_ble_eq_true rfl) ?_
  intro p e s m args below meth c hE hr hlocks hW ls hl
  have hE : q_E G p s m args c cX6_share 5 RX6 := hE
  have hx := hE.1.1
  have hb := hE.1.2.1
  have hl : lv_has ls 5 [(0, .ref a0), (1, .int i1), (2, .int i2)] := hl
  have jn176a : ∀ (ks1 : q_S) (H : Heap) (locs : List Loc) (hW : q_Wd G [16, 18, 19, 20] σ s.heap ks1 H locs) (ls : Array Slot) (hl : lv_has ls 5 [(0, .ref a0), (1, .int i1), (2, .int i2)]), W p l e (q_Rm 8) s m args below meth c H locs 0 0 (MQ below (q_Qv G [16, 18, 19, 20] σ (fun σ1 => True)) args s 0 0 (q_N G)) (F0 m 176 ls []) := by
    intro ks1 H locs hW ls hl
    refine lv_aload_n hx hb dX6_share_176 rfl (lv_at hl 0 rfl) ?_
    refine q_getr hE hW h0 rfl q_k6 3 (by decide) rfl (hE.l wl_115) dX6_share_177 (fun kb2 ekb2 hkb2a hkb2b => ?_)
    have hkb2 : q_T G kb2 = 19 := q_tag hkb2a hkb2b
    refine lv_iload_n hx hb dX6_share_180 rfl (lv_at hl 1 rfl) ?_
    refine lv_iconst (v := (-1)) hx hb dX6_share_181 (by decide) ?_
    refine q_iast hE hW hkb2 rfl (q_in w1 (by decide) (by decide)) trivial (by decide) dX6_share_182 (fun H locs ks3 kp4 hW => ?_)
    refine lv_aload_n hx hb dX6_share_183 rfl (lv_at hl 0 rfl) ?_
    refine lv_iload_n hx hb dX6_share_184 rfl (lv_at hl 1 rfl) ?_
    refine lv_iconst (v := 1) hx hb dX6_share_185 (by decide) ?_
    refine lv_iadd hx hb dX6_share_186 ?_
    refine lv_topi (fun kx5 ekx5 => ?_)
    have vkx5 : q_V 3 3 kx5 := by rw [ekx5]; exact (q_add w1 (q_c (k := 1) (x := 1) (by decide)) (by decide) (by decide)).w (by decide) (by decide)
    have ikx5 : kx5.toInt = i1.toInt + 1 := q_incT ekx5 w1 (by decide) (by decide) (by decide)
    refine lv_iload_n hx hb dX6_share_187 rfl (lv_at hl 2 rfl) ?_
    refine q_gov hW (q_runV (As := [.int kx5, .int i2]) (rest := []) hE hW (c_X6_share_t3 l G ks3 a0 h0 kx5 vkx5 i2) kw_X6_71 (q_recv hE hW h0 rfl q_k6) rfl hl.1 rfl (Nat.le_of_ble_eq_true rfl) dX6_share_188 ⟨by decide, by decide⟩ ⟨by decide, by decide⟩) (by decide) (fun ks7 H locs kp6 kf8 hW => ?_)
    exact q_retv hE hr hlocks hW (trivial) dX6_share_191
  have lp93a : ∀ (n93a : Nat) (ks11 : q_S) (H : Heap) (locs : List Loc) (kx9 : Int32) (vkx9 : q_V 0 1 kx9) (kx10 : Int32) (vkx10 : q_V 0 3 kx10) (hW : q_Wd G [16, 18, 19, 20] σ s.heap ks11 H locs) (ls : Array Slot) (hl : lv_has ls 5 [(0, .ref a0), (1, .int i1), (2, .int i2), (3, .int kx9), (4, .int kx10)]), (3 - kx10.toInt).toNat < n93a → W p l e (q_Rm 8) s m args below meth c H locs 0 0 (MQ below (q_Qv G [16, 18, 19, 20] σ (fun σ1 => True)) args s 0 0 (q_N G)) (F0 m 93 ls []) := by
    intro n93a
    induction n93a with
    | zero => intro _ _ _ _ _ _ _ _ _ _; exact fun h => absurd h (Nat.not_lt_zero _)
    | succ n93a ih93a =>
      intro ks11 H locs kx9 vkx9 kx10 vkx10 hW ls hl hm93a
      have jn155a : ∀ (ks14 : q_S) (H : Heap) (locs : List Loc) (kv12 : q_V 1 1 kx9) (kv13 : q_V 0 2 kx10) (hW : q_Wd G [16, 18, 19, 20] σ s.heap ks14 H locs) (ls : Array Slot) (hl : lv_has ls 5 [(0, .ref a0), (1, .int i1), (2, .int i2), (3, .int kx9), (4, .int kx10)]), W p l e (q_Rm 8) s m args below meth c H locs 0 0 (MQ below (q_Qv G [16, 18, 19, 20] σ (fun σ1 => True)) args s 0 0 (q_N G)) (F0 m 155 ls []) := by
        intro ks14 H locs kv12 kv13 hW ls hl
        refine lv_aload_n hx hb dX6_share_155 rfl (lv_at hl 0 rfl) ?_
        refine q_getr hE hW h0 rfl q_k6 2 (by decide) rfl (hE.l wl_114) dX6_share_156 (fun kb15 ekb15 hkb15a hkb15b => ?_)
        have hkb15 : q_T G kb15 = 18 := q_tag hkb15a hkb15b
        refine lv_iload hx hb dX6_share_159 (lv_at hl 4 rfl) ?_
        refine lv_dup2_11 hx hb dX6_share_161 rfl rfl ?_
        refine q_iald hE hW hkb15 rfl (q_in kv13 (by decide) (by decide)) dX6_share_162 (fun kx16 ekx16 gkx16 => ?_)
        refine lv_iconst (v := 1) hx hb dX6_share_163 (by decide) ?_
        refine lv_iload_n hx hb dX6_share_164 rfl (lv_at hl 1 rfl) ?_
        refine lv_ishl hx hb dX6_share_165 ?_
        refine lv_topi (fun kx17 ekx17 => ?_)
        refine lv_iconst (v := (-1)) hx hb dX6_share_166 (by decide) ?_
        refine lv_ixor hx hb dX6_share_167 ?_
        refine lv_topi (fun kx18 ekx18 => ?_)
        refine lv_iand hx hb dX6_share_168 ?_
        refine lv_topi (fun kx19 ekx19 => ?_)
        refine q_iast hE hW hkb15 rfl (q_in kv13 (by decide) (by decide)) trivial (by decide) dX6_share_169 (fun H locs ks20 kp21 hW => ?_)
        obtain ⟨kx22, ekx22⟩ : ∃ y : Int32, y = kx10 + 1 := ⟨_, rfl⟩
        have vkx22 : q_V 1 3 kx22 := by rw [ekx22]; exact (q_add kv13 (q_c (k := 1) (x := 1) (by decide)) (by decide) (by decide)).w (by decide) (by decide)
        have ikx22 : kx22.toInt = kx10.toInt + 1 := q_incT ekx22 kv13 (by decide) (by decide) (by decide)
        refine lv_iinc (v := kx22) (lv' := [(4, .int kx22), (0, .ref a0), (1, .int i1), (2, .int i2), (3, .int kx9)]) hx hb dX6_share_170 hl (k := 4) rfl (by rw [ekx22]; rfl) (by decide) rfl (fun ls hl => ?_)
        refine lv_goto (tgt := 93) hx hb dX6_share_173 (by decide) ?_
        exact ih93a _ _ _ kx9 (kv12.w (by decide) (by decide)) kx22 (vkx22.w (by decide) (by decide)) hW ls (lv_sub hl [1, 2, 3, 4, 0] rfl) (Nat.lt_of_lt_of_le (q_up (ikx22) (show q_V 1 3 kx22 from vkx22).2) (Nat.le_of_lt_succ hm93a))
      refine lv_iload_n hx hb dX6_share_93 rfl (lv_at hl 3 rfl) ?_
      refine lv_if_eq (tgt := 176) hx hb dX6_share_94 (by decide) (fun kc23 => ?_) (fun kc23 => ?_)
      · have kv24 : q_V 0 0 kx9 := q_eq1 vkx9 (q_c (k := 0) (x := 0) (by decide)) kc23 (by decide) (by decide)
        exact jn176a _ _ _ hW ls (lv_sub hl [0, 1, 2] rfl)
      · have kv25 : q_V 1 1 kx9 := q_ne1 vkx9 (q_c (k := 0) (x := 0) (by decide)) kc23 (by decide)
        refine lv_iload hx hb dX6_share_97 (lv_at hl 4 rfl) ?_
        refine lv_aload_n hx hb dX6_share_99 rfl (lv_at hl 0 rfl) ?_
        refine q_getr hE hW h0 rfl q_k6 0 (by decide) rfl (hE.l wl_112) dX6_share_100 (fun kb26 ekb26 hkb26a hkb26b => ?_)
        have hkb26 : q_T G kb26 = 7 := q_tag hkb26a hkb26b
        refine q_geti hE hW hkb26 rfl q_k2 4 (by decide) rfl (hE.n 25 rfl) dX6_share_103 (fun kx27 ekx27 vkx27 => ?_)
        refine lv_icmp_ge (tgt := 176) hx hb dX6_share_106 (by decide) (fun kc28 => ?_) (fun kc28 => ?_)
        · exact jn176a _ _ _ hW ls (lv_sub hl [0, 1, 2] rfl)
        · have kv29 : q_V 0 2 kx10 := (q_lt1 vkx10 vkx27 (Int32.not_le.mp kc28)).w (by decide) (by decide)
          have kv30 : q_V 1 3 kx27 := (q_lt2 vkx10 vkx27 (Int32.not_le.mp kc28)).w (by decide) (by decide)
          refine lv_iload hx hb dX6_share_109 (lv_at hl 4 rfl) ?_
          refine lv_iconst (v := 3) hx hb dX6_share_111 (by decide) ?_
          refine lv_icmp_ge (tgt := 176) hx hb dX6_share_112 (by decide) (fun kc31 => ?_) (fun kc31 => ?_)
          · have kv32 : q_V 3 2 3 := (q_le1 (q_c (k := 3) (x := 3) (by decide)) kv29 kc31).w (by decide) (by decide)
            exact (kv32.no (by decide))
          · refine lv_aload_n hx hb dX6_share_115 rfl (lv_at hl 0 rfl) ?_
            refine q_getr hE hW h0 rfl q_k6 2 (by decide) rfl (hE.l wl_114) dX6_share_116 (fun kb33 ekb33 hkb33a hkb33b => ?_)
            have hkb33 : q_T G kb33 = 18 := q_tag hkb33a hkb33b
            refine lv_iload hx hb dX6_share_119 (lv_at hl 4 rfl) ?_
            refine lv_dup2_11 hx hb dX6_share_121 rfl rfl ?_
            refine q_iald hE hW hkb33 rfl (q_in kv29 (by decide) (by decide)) dX6_share_122 (fun kx34 ekx34 gkx34 => ?_)
            refine lv_iconst (v := 1) hx hb dX6_share_123 (by decide) ?_
            refine lv_iload_n hx hb dX6_share_124 rfl (lv_at hl 1 rfl) ?_
            refine lv_ishl hx hb dX6_share_125 ?_
            refine lv_topi (fun kx35 ekx35 => ?_)
            refine lv_ior hx hb dX6_share_126 ?_
            refine lv_topi (fun kx36 ekx36 => ?_)
            refine q_iast hE hW hkb33 rfl (q_in kv29 (by decide) (by decide)) trivial (by decide) dX6_share_127 (fun H locs ks37 kp38 hW => ?_)
            refine lv_aload_n hx hb dX6_share_128 rfl (lv_at hl 0 rfl) ?_
            refine lv_iload hx hb dX6_share_129 (lv_at hl 4 rfl) ?_
            refine q_goi hW (q_runV (As := [.int kx10]) (rest := []) hE hW (c_X6_isInTime l G ks37 a0 h0 kx10) kw_X6_95 (q_recv hE hW h0 rfl q_k6) rfl hl.1 rfl (Nat.le_of_ble_eq_true rfl) dX6_share_131 ⟨by decide, by decide⟩ ⟨by decide, by decide⟩) (by decide) (fun kx42 ks40 H locs kp39 kf41 hW => ?_)
            refine lv_if_eq (tgt := 155) hx hb dX6_share_134 (by decide) (fun kc43 => ?_) (fun kc43 => ?_)
            · have kv44 : q_V 0 0 kx42 := q_eq1 kp39 (q_c (k := 0) (x := 0) (by decide)) kc43 (by decide) (by decide)
              exact jn155a _ _ _ kv25 kv29 hW ls (lv_sub hl [0, 1, 2, 3, 4] rfl)
            · have kv45 : q_V 1 1 kx42 := q_ne1 kp39 (q_c (k := 0) (x := 0) (by decide)) kc43 (by decide)
              refine lv_aload_n hx hb dX6_share_137 rfl (lv_at hl 0 rfl) ?_
              refine q_getr hE hW h0 rfl q_k6 3 (by decide) rfl (hE.l wl_115) dX6_share_138 (fun kb46 ekb46 hkb46a hkb46b => ?_)
              have hkb46 : q_T G kb46 = 19 := q_tag hkb46a hkb46b
              refine lv_iload_n hx hb dX6_share_141 rfl (lv_at hl 1 rfl) ?_
              refine lv_iload hx hb dX6_share_142 (lv_at hl 4 rfl) ?_
              refine q_iast hE hW hkb46 rfl (q_in w1 (by decide) (by decide)) trivial (by decide) dX6_share_144 (fun H locs ks47 kp48 hW => ?_)
              refine lv_aload_n hx hb dX6_share_145 rfl (lv_at hl 0 rfl) ?_
              refine lv_iload_n hx hb dX6_share_146 rfl (lv_at hl 1 rfl) ?_
              refine lv_iconst (v := 1) hx hb dX6_share_147 (by decide) ?_
              refine lv_iadd hx hb dX6_share_148 ?_
              refine lv_topi (fun kx49 ekx49 => ?_)
              have vkx49 : q_V 3 3 kx49 := by rw [ekx49]; exact (q_add w1 (q_c (k := 1) (x := 1) (by decide)) (by decide) (by decide)).w (by decide) (by decide)
              have ikx49 : kx49.toInt = i1.toInt + 1 := q_incT ekx49 w1 (by decide) (by decide) (by decide)
              refine lv_iload_n hx hb dX6_share_149 rfl (lv_at hl 2 rfl) ?_
              refine lv_iconst (v := 1) hx hb dX6_share_150 (by decide) ?_
              refine lv_iadd hx hb dX6_share_151 ?_
              refine lv_topi (fun kx50 ekx50 => ?_)
              refine q_gov hW (q_runV (As := [.int kx49, .int kx50]) (rest := []) hE hW (c_X6_share_t3 l G ks47 a0 h0 kx49 vkx49 kx50) kw_X6_71 (q_recv hE hW h0 rfl q_k6) rfl hl.1 rfl (Nat.le_of_ble_eq_true rfl) dX6_share_152 ⟨by decide, by decide⟩ ⟨by decide, by decide⟩) (by decide) (fun ks52 H locs kp51 kf53 hW => ?_)
              exact jn155a _ _ _ kv25 kv29 hW ls (lv_sub hl [0, 1, 2, 3, 4] rfl)
  have jn89a : ∀ (ks55 : q_S) (H : Heap) (locs : List Loc) (kx54 : Int32) (vkx54 : q_V 0 1 kx54) (hW : q_Wd G [16, 18, 19, 20] σ s.heap ks55 H locs) (ls : Array Slot) (hl : lv_has ls 5 [(0, .ref a0), (1, .int i1), (2, .int i2)]), W p l e (q_Rm 8) s m args below meth c H locs 0 0 (MQ below (q_Qv G [16, 18, 19, 20] σ (fun σ1 => True)) args s 0 0 (q_N G)) (F0 m 89 ls [.int kx54]) := by
    intro ks55 H locs kx54 vkx54 hW ls hl
    refine lv_istore_n (lv' := [(3, .int kx54), (0, .ref a0), (1, .int i1), (2, .int i2)]) hx hb dX6_share_89 rfl hl (by decide) rfl (fun ls hl => ?_)
    refine lv_iconst (v := 0) hx hb dX6_share_90 (by decide) ?_
    refine lv_istore (lv' := [(4, .int 0), (3, .int kx54), (0, .ref a0), (1, .int i1), (2, .int i2)]) hx hb dX6_share_91 hl (by decide) rfl (fun ls hl => ?_)
    exact lp93a _ _ _ _ kx54 vkx54 0 ((q_c (k := 0) (x := 0) (by decide)).w (by decide) (by decide)) hW ls (lv_sub hl [2, 3, 4, 1, 0] rfl) (Nat.lt_succ_self _)
  have jn21a : ∀ (ks56 : q_S) (H : Heap) (locs : List Loc) (hW : q_Wd G [16, 18, 19, 20] σ s.heap ks56 H locs) (ls : Array Slot) (hl : lv_has ls 5 [(0, .ref a0), (2, .int i2)]), W p l e (q_Rm 8) s m args below meth c H locs 0 0 (MQ below (q_Qv G [16, 18, 19, 20] σ (fun σ1 => True)) args s 0 0 (q_N G)) (F0 m 21 ls []) := by
    intro ks56 H locs hW ls hl
    refine lv_iload_n hx hb dX6_share_21 rfl (lv_at hl 1 rfl) ?_
    refine lv_aload_n hx hb dX6_share_22 rfl (lv_at hl 0 rfl) ?_
    refine q_geti hE hW h0 rfl q_k6 6 (by decide) rfl (hE.l wl_834) dX6_share_23 (fun kx57 ekx57 vkx57 => ?_)
    refine lv_icmp_le (tgt := 49) hx hb dX6_share_26 (by decide) (fun kc58 => ?_) (fun kc58 => ?_)
    · exact q_retv hE hr hlocks hW (trivial) dX6_share_49
    · have kv59 : q_V (-2147483648) 2147483646 kx57 := (q_lt1 (q_all kx57) (q_all i2) (Int32.not_le.mp kc58)).w (by decide) (by decide)
      have kv60 : q_V (-2147483647) 2147483647 i2 := (q_lt2 (q_all kx57) (q_all i2) (Int32.not_le.mp kc58)).w (by decide) (by decide)
      refine lv_aload_n hx hb dX6_share_29 rfl (lv_at hl 0 rfl) ?_
      refine lv_iload_n hx hb dX6_share_30 rfl (lv_at hl 1 rfl) ?_
      refine q_puti hE hW h0 rfl q_k6 tyX6 tyX6_ok 6 (by decide) rfl (hE.l wl_834) rfl rfl rfl (kv60.w (by decide) (by decide)) (by decide) dX6_share_31 (fun H locs ks61 kp62 hW => ?_)
      refine lv_aload_n hx hb dX6_share_34 rfl (lv_at hl 0 rfl) ?_
      refine q_getr hE hW h0 rfl q_k6 3 (by decide) rfl (hE.l wl_115) dX6_share_35 (fun kb63 ekb63 hkb63a hkb63b => ?_)
      have hkb63 : q_T G kb63 = 19 := q_tag hkb63a hkb63b
      refine lv_iconst (v := 0) hx hb dX6_share_38 (by decide) ?_
      refine lv_aload_n hx hb dX6_share_39 rfl (lv_at hl 0 rfl) ?_
      refine q_getr hE hW h0 rfl q_k6 4 (by decide) rfl (hE.l wl_116) dX6_share_40 (fun kb64 ekb64 hkb64a hkb64b => ?_)
      have hkb64 : q_T G kb64 = 20 := q_tag hkb64a hkb64b
      refine lv_iconst (v := 0) hx hb dX6_share_43 (by decide) ?_
      refine lv_bipush (v := 6) hx hb dX6_share_44 (by decide) ?_
      refine q_acopy hE hW hkb63 hkb64 rfl rfl (Or.inl rfl) (by decide) (by decide) (by decide) (by decide) (by decide) (fun _ _ _ _ => trivial) (by decide) wl_850 wl_201 wl_202 wl_203 hl.1 (by decide) (Nat.le_of_ble_eq_true rfl) dX6_share_46 (fun H locs ks65 kp66 hW => ?_)
      exact q_retv hE hr hlocks hW (trivial) dX6_share_49
  refine lv_iload_n hx hb dX6_share_0 rfl (lv_at hl 1 rfl) ?_
  refine lv_if_lt (tgt := 21) hx hb dX6_share_1 (by decide) (fun kc67 => ?_) (fun kc67 => ?_)
  · have kv68 : q_V 2 (-1) i1 := (q_lt1 w1 (q_c (k := 0) (x := 0) (by decide)) kc67).w (by decide) (by decide)
    exact (kv68.no (by decide))
  · refine lv_iload_n hx hb dX6_share_4 rfl (lv_at hl 1 rfl) ?_
    refine lv_aload_n hx hb dX6_share_5 rfl (lv_at hl 0 rfl) ?_
    refine q_getr hE hW h0 rfl q_k6 0 (by decide) rfl (hE.l wl_112) dX6_share_6 (fun kb69 ekb69 hkb69a hkb69b => ?_)
    have hkb69 : q_T G kb69 = 7 := q_tag hkb69a hkb69b
    refine q_geti hE hW hkb69 rfl q_k2 1 (by decide) rfl (hE.n 19 rfl) dX6_share_9 (fun kx70 ekx70 vkx70 => ?_)
    refine lv_icmp_ge (tgt := 21) hx hb dX6_share_12 (by decide) (fun kc71 => ?_) (fun kc71 => ?_)
    · have kv72 : q_V 0 2 kx70 := (q_le1 vkx70 w1 kc71).w (by decide) (by decide)
      exact jn21a _ _ _ hW ls (lv_sub hl [0, 2] rfl)
    · have kv73 : q_V 3 6 kx70 := (q_lt2 w1 vkx70 (Int32.not_le.mp kc71)).w (by decide) (by decide)
      refine lv_iload_n hx hb dX6_share_15 rfl (lv_at hl 1 rfl) ?_
      refine lv_bipush (v := 6) hx hb dX6_share_16 (by decide) ?_
      refine lv_icmp_lt (tgt := 50) hx hb dX6_share_18 (by decide) (fun kc74 => ?_) (fun kc74 => ?_)
      · refine lv_iload_n hx hb dX6_share_50 rfl (lv_at hl 2 rfl) ?_
        refine lv_aload_n hx hb dX6_share_51 rfl (lv_at hl 0 rfl) ?_
        refine q_getr hE hW h0 rfl q_k6 0 (by decide) rfl (hE.l wl_112) dX6_share_52 (fun kb75 ekb75 hkb75a hkb75b => ?_)
        obtain rfl : kb69 = kb75 := ekb69.symm.trans ekb75
        refine q_geti hE hW hkb69 rfl q_k2 1 (by decide) rfl (hE.n 19 rfl) dX6_share_55 (fun kx76 ekx76 vkx76 => ?_)
        obtain rfl : kx70 = kx76 := ekx70.symm.trans ekx76
        refine lv_iadd hx hb dX6_share_58 ?_
        refine lv_topi (fun kx77 ekx77 => ?_)
        refine lv_iload_n hx hb dX6_share_59 rfl (lv_at hl 1 rfl) ?_
        refine lv_isub hx hb dX6_share_60 ?_
        refine lv_topi (fun kx78 ekx78 => ?_)
        refine lv_aload_n hx hb dX6_share_61 rfl (lv_at hl 0 rfl) ?_
        refine q_geti hE hW h0 rfl q_k6 6 (by decide) rfl (hE.l wl_834) dX6_share_62 (fun kx79 ekx79 vkx79 => ?_)
        refine lv_icmp_gt (tgt := 69) hx hb dX6_share_65 (by decide) (fun kc80 => ?_) (fun kc80 => ?_)
        · have kv81 : q_V (-2147483648) 2147483646 kx79 := (q_lt1 (q_all kx79) (q_all kx78) kc80).w (by decide) (by decide)
          have kv82 : q_V (-2147483647) 2147483647 kx78 := (q_lt2 (q_all kx79) (q_all kx78) kc80).w (by decide) (by decide)
          refine lv_aload_n hx hb dX6_share_69 rfl (lv_at hl 0 rfl) ?_
          refine q_getr hE hW h0 rfl q_k6 0 (by decide) rfl (hE.l wl_112) dX6_share_70 (fun kb83 ekb83 hkb83a hkb83b => ?_)
          obtain rfl : kb69 = kb83 := ekb69.symm.trans ekb83
          refine q_getr hE hW hkb69 rfl q_k2 0 (by decide) rfl (hE.n 17 rfl) dX6_share_73 (fun kb84 ekb84 hkb84a hkb84b => ?_)
          have hkb84 : q_T G kb84 = 8 := q_tag hkb84a hkb84b
          refine lv_iload_n hx hb dX6_share_76 rfl (lv_at hl 1 rfl) ?_
          refine q_aald hE hW hkb84 rfl (q_in w1 (by decide) (by decide)) dX6_share_77 (fun kb85 ekb85 hkb85a hkb85b => ?_)
          have hkb85 : q_T G kb85 = 5 := q_tag hkb85a hkb85b
          refine q_geti hE hW hkb85 rfl q_k1 3 (by decide) rfl (hE.n 10 rfl) dX6_share_78 (fun kx86 ekx86 vkx86 => ?_)
          refine lv_if_ne (tgt := 88) hx hb dX6_share_81 (by decide) (fun kc87 => ?_) (fun kc87 => ?_)
          · refine lv_iconst (v := 0) hx hb dX6_share_88 (by decide) ?_
            exact jn89a _ _ _ 0 ((q_c (k := 0) (x := 0) (by decide)).w (by decide) (by decide)) hW ls (lv_sub hl [0, 1, 2] rfl)
          · have kv88 : q_V 0 0 kx86 := q_eq1 (q_all kx86) (q_c (k := 0) (x := 0) (by decide)) kc87 (by decide) (by decide)
            refine lv_iconst (v := 1) hx hb dX6_share_84 (by decide) ?_
            refine lv_goto (tgt := 89) hx hb dX6_share_85 (by decide) ?_
            exact jn89a _ _ _ 1 ((q_c (k := 1) (x := 1) (by decide)).w (by decide) (by decide)) hW ls (lv_sub hl [0, 1, 2] rfl)
        · exact q_retv hE hr hlocks hW (trivial) dX6_share_68
      · have kv89 : q_V 6 2 6 := (q_le1 (q_c (k := 6) (x := 6) (by decide)) w1 (Int32.not_lt.mp kc74)).w (by decide) (by decide)
        exact (kv89.no (by decide))
set_option maxHeartbeats 4000000 in
set_option maxRecDepth 100000 in
theorem c_X6_share_t1 (l : Launch) (G : q_G) (σ : q_S) (a0 : Nat) (h0 : q_T G a0 = 16) (i1 : Int32) (w1 : q_V 1 1 i1) (i2 : Int32)  : Met l yX6_share (Cond.code yX6_share cX6_share 5 none :: wsL_law) (q_Rm 9) (q_Pre G σ [.ref a0, .int i1, .int i2]) (q_Qv G [16, 18, 19, 20] σ (fun σ1 => True)) 0 0 (q_N G) := by
  refine q_ofW (ts := [16, 18, 19, 20]) (by decide) (Nat.le_of_ble_eq_true rfl) ?_
  intro p e s m args below meth c hE hr hlocks hW ls hl
  have hE : q_E G p s m args c cX6_share 5 RX6 := hE
  have hx := hE.1.1
  have hb := hE.1.2.1
  have hl : lv_has ls 5 [(0, .ref a0), (1, .int i1), (2, .int i2)] := hl
  have jn176a : ∀ (ks1 : q_S) (H : Heap) (locs : List Loc) (hW : q_Wd G [16, 18, 19, 20] σ s.heap ks1 H locs) (ls : Array Slot) (hl : lv_has ls 5 [(0, .ref a0), (1, .int i1), (2, .int i2)]), W p l e (q_Rm 9) s m args below meth c H locs 0 0 (MQ below (q_Qv G [16, 18, 19, 20] σ (fun σ1 => True)) args s 0 0 (q_N G)) (F0 m 176 ls []) := by
    intro ks1 H locs hW ls hl
    refine lv_aload_n hx hb dX6_share_176 rfl (lv_at hl 0 rfl) ?_
    refine q_getr hE hW h0 rfl q_k6 3 (by decide) rfl (hE.l wl_115) dX6_share_177 (fun kb2 ekb2 hkb2a hkb2b => ?_)
    have hkb2 : q_T G kb2 = 19 := q_tag hkb2a hkb2b
    refine lv_iload_n hx hb dX6_share_180 rfl (lv_at hl 1 rfl) ?_
    refine lv_iconst (v := (-1)) hx hb dX6_share_181 (by decide) ?_
    refine q_iast hE hW hkb2 rfl (q_in w1 (by decide) (by decide)) trivial (by decide) dX6_share_182 (fun H locs ks3 kp4 hW => ?_)
    refine lv_aload_n hx hb dX6_share_183 rfl (lv_at hl 0 rfl) ?_
    refine lv_iload_n hx hb dX6_share_184 rfl (lv_at hl 1 rfl) ?_
    refine lv_iconst (v := 1) hx hb dX6_share_185 (by decide) ?_
    refine lv_iadd hx hb dX6_share_186 ?_
    refine lv_topi (fun kx5 ekx5 => ?_)
    have vkx5 : q_V 2 2 kx5 := by rw [ekx5]; exact (q_add w1 (q_c (k := 1) (x := 1) (by decide)) (by decide) (by decide)).w (by decide) (by decide)
    have ikx5 : kx5.toInt = i1.toInt + 1 := q_incT ekx5 w1 (by decide) (by decide) (by decide)
    refine lv_iload_n hx hb dX6_share_187 rfl (lv_at hl 2 rfl) ?_
    refine q_gov hW (q_runV (As := [.int kx5, .int i2]) (rest := []) hE hW (c_X6_share_t2 l G ks3 a0 h0 kx5 vkx5 i2) kw_X6_71 (q_recv hE hW h0 rfl q_k6) rfl hl.1 rfl (Nat.le_of_ble_eq_true rfl) dX6_share_188 ⟨by decide, by decide⟩ ⟨by decide, by decide⟩) (by decide) (fun ks7 H locs kp6 kf8 hW => ?_)
    exact q_retv hE hr hlocks hW (trivial) dX6_share_191
  have lp93a : ∀ (n93a : Nat) (ks11 : q_S) (H : Heap) (locs : List Loc) (kx9 : Int32) (vkx9 : q_V 0 1 kx9) (kx10 : Int32) (vkx10 : q_V 0 3 kx10) (hW : q_Wd G [16, 18, 19, 20] σ s.heap ks11 H locs) (ls : Array Slot) (hl : lv_has ls 5 [(0, .ref a0), (1, .int i1), (2, .int i2), (3, .int kx9), (4, .int kx10)]), (3 - kx10.toInt).toNat < n93a → W p l e (q_Rm 9) s m args below meth c H locs 0 0 (MQ below (q_Qv G [16, 18, 19, 20] σ (fun σ1 => True)) args s 0 0 (q_N G)) (F0 m 93 ls []) := by
    intro n93a
    induction n93a with
    | zero => intro _ _ _ _ _ _ _ _ _ _; exact fun h => absurd h (Nat.not_lt_zero _)
    | succ n93a ih93a =>
      intro ks11 H locs kx9 vkx9 kx10 vkx10 hW ls hl hm93a
      have jn155a : ∀ (ks14 : q_S) (H : Heap) (locs : List Loc) (kv12 : q_V 1 1 kx9) (kv13 : q_V 0 2 kx10) (hW : q_Wd G [16, 18, 19, 20] σ s.heap ks14 H locs) (ls : Array Slot) (hl : lv_has ls 5 [(0, .ref a0), (1, .int i1), (2, .int i2), (3, .int kx9), (4, .int kx10)]), W p l e (q_Rm 9) s m args below meth c H locs 0 0 (MQ below (q_Qv G [16, 18, 19, 20] σ (fun σ1 => True)) args s 0 0 (q_N G)) (F0 m 155 ls []) := by
        intro ks14 H locs kv12 kv13 hW ls hl
        refine lv_aload_n hx hb dX6_share_155 rfl (lv_at hl 0 rfl) ?_
        refine q_getr hE hW h0 rfl q_k6 2 (by decide) rfl (hE.l wl_114) dX6_share_156 (fun kb15 ekb15 hkb15a hkb15b => ?_)
        have hkb15 : q_T G kb15 = 18 := q_tag hkb15a hkb15b
        refine lv_iload hx hb dX6_share_159 (lv_at hl 4 rfl) ?_
        refine lv_dup2_11 hx hb dX6_share_161 rfl rfl ?_
        refine q_iald hE hW hkb15 rfl (q_in kv13 (by decide) (by decide)) dX6_share_162 (fun kx16 ekx16 gkx16 => ?_)
        refine lv_iconst (v := 1) hx hb dX6_share_163 (by decide) ?_
        refine lv_iload_n hx hb dX6_share_164 rfl (lv_at hl 1 rfl) ?_
        refine lv_ishl hx hb dX6_share_165 ?_
        refine lv_topi (fun kx17 ekx17 => ?_)
        refine lv_iconst (v := (-1)) hx hb dX6_share_166 (by decide) ?_
        refine lv_ixor hx hb dX6_share_167 ?_
        refine lv_topi (fun kx18 ekx18 => ?_)
        refine lv_iand hx hb dX6_share_168 ?_
        refine lv_topi (fun kx19 ekx19 => ?_)
        refine q_iast hE hW hkb15 rfl (q_in kv13 (by decide) (by decide)) trivial (by decide) dX6_share_169 (fun H locs ks20 kp21 hW => ?_)
        obtain ⟨kx22, ekx22⟩ : ∃ y : Int32, y = kx10 + 1 := ⟨_, rfl⟩
        have vkx22 : q_V 1 3 kx22 := by rw [ekx22]; exact (q_add kv13 (q_c (k := 1) (x := 1) (by decide)) (by decide) (by decide)).w (by decide) (by decide)
        have ikx22 : kx22.toInt = kx10.toInt + 1 := q_incT ekx22 kv13 (by decide) (by decide) (by decide)
        refine lv_iinc (v := kx22) (lv' := [(4, .int kx22), (0, .ref a0), (1, .int i1), (2, .int i2), (3, .int kx9)]) hx hb dX6_share_170 hl (k := 4) rfl (by rw [ekx22]; rfl) (by decide) rfl (fun ls hl => ?_)
        refine lv_goto (tgt := 93) hx hb dX6_share_173 (by decide) ?_
        exact ih93a _ _ _ kx9 (kv12.w (by decide) (by decide)) kx22 (vkx22.w (by decide) (by decide)) hW ls (lv_sub hl [1, 2, 3, 4, 0] rfl) (Nat.lt_of_lt_of_le (q_up (ikx22) (show q_V 1 3 kx22 from vkx22).2) (Nat.le_of_lt_succ hm93a))
      refine lv_iload_n hx hb dX6_share_93 rfl (lv_at hl 3 rfl) ?_
      refine lv_if_eq (tgt := 176) hx hb dX6_share_94 (by decide) (fun kc23 => ?_) (fun kc23 => ?_)
      · have kv24 : q_V 0 0 kx9 := q_eq1 vkx9 (q_c (k := 0) (x := 0) (by decide)) kc23 (by decide) (by decide)
        exact jn176a _ _ _ hW ls (lv_sub hl [0, 1, 2] rfl)
      · have kv25 : q_V 1 1 kx9 := q_ne1 vkx9 (q_c (k := 0) (x := 0) (by decide)) kc23 (by decide)
        refine lv_iload hx hb dX6_share_97 (lv_at hl 4 rfl) ?_
        refine lv_aload_n hx hb dX6_share_99 rfl (lv_at hl 0 rfl) ?_
        refine q_getr hE hW h0 rfl q_k6 0 (by decide) rfl (hE.l wl_112) dX6_share_100 (fun kb26 ekb26 hkb26a hkb26b => ?_)
        have hkb26 : q_T G kb26 = 7 := q_tag hkb26a hkb26b
        refine q_geti hE hW hkb26 rfl q_k2 4 (by decide) rfl (hE.n 25 rfl) dX6_share_103 (fun kx27 ekx27 vkx27 => ?_)
        refine lv_icmp_ge (tgt := 176) hx hb dX6_share_106 (by decide) (fun kc28 => ?_) (fun kc28 => ?_)
        · exact jn176a _ _ _ hW ls (lv_sub hl [0, 1, 2] rfl)
        · have kv29 : q_V 0 2 kx10 := (q_lt1 vkx10 vkx27 (Int32.not_le.mp kc28)).w (by decide) (by decide)
          have kv30 : q_V 1 3 kx27 := (q_lt2 vkx10 vkx27 (Int32.not_le.mp kc28)).w (by decide) (by decide)
          refine lv_iload hx hb dX6_share_109 (lv_at hl 4 rfl) ?_
          refine lv_iconst (v := 3) hx hb dX6_share_111 (by decide) ?_
          refine lv_icmp_ge (tgt := 176) hx hb dX6_share_112 (by decide) (fun kc31 => ?_) (fun kc31 => ?_)
          · have kv32 : q_V 3 2 3 := (q_le1 (q_c (k := 3) (x := 3) (by decide)) kv29 kc31).w (by decide) (by decide)
            exact (kv32.no (by decide))
          · refine lv_aload_n hx hb dX6_share_115 rfl (lv_at hl 0 rfl) ?_
            refine q_getr hE hW h0 rfl q_k6 2 (by decide) rfl (hE.l wl_114) dX6_share_116 (fun kb33 ekb33 hkb33a hkb33b => ?_)
            have hkb33 : q_T G kb33 = 18 := q_tag hkb33a hkb33b
            refine lv_iload hx hb dX6_share_119 (lv_at hl 4 rfl) ?_
            refine lv_dup2_11 hx hb dX6_share_121 rfl rfl ?_
            refine q_iald hE hW hkb33 rfl (q_in kv29 (by decide) (by decide)) dX6_share_122 (fun kx34 ekx34 gkx34 => ?_)
            refine lv_iconst (v := 1) hx hb dX6_share_123 (by decide) ?_
            refine lv_iload_n hx hb dX6_share_124 rfl (lv_at hl 1 rfl) ?_
            refine lv_ishl hx hb dX6_share_125 ?_
            refine lv_topi (fun kx35 ekx35 => ?_)
            refine lv_ior hx hb dX6_share_126 ?_
            refine lv_topi (fun kx36 ekx36 => ?_)
            refine q_iast hE hW hkb33 rfl (q_in kv29 (by decide) (by decide)) trivial (by decide) dX6_share_127 (fun H locs ks37 kp38 hW => ?_)
            refine lv_aload_n hx hb dX6_share_128 rfl (lv_at hl 0 rfl) ?_
            refine lv_iload hx hb dX6_share_129 (lv_at hl 4 rfl) ?_
            refine q_goi hW (q_runV (As := [.int kx10]) (rest := []) hE hW (c_X6_isInTime l G ks37 a0 h0 kx10) kw_X6_95 (q_recv hE hW h0 rfl q_k6) rfl hl.1 rfl (Nat.le_of_ble_eq_true rfl) dX6_share_131 ⟨by decide, by decide⟩ ⟨by decide, by decide⟩) (by decide) (fun kx42 ks40 H locs kp39 kf41 hW => ?_)
            refine lv_if_eq (tgt := 155) hx hb dX6_share_134 (by decide) (fun kc43 => ?_) (fun kc43 => ?_)
            · have kv44 : q_V 0 0 kx42 := q_eq1 kp39 (q_c (k := 0) (x := 0) (by decide)) kc43 (by decide) (by decide)
              exact jn155a _ _ _ kv25 kv29 hW ls (lv_sub hl [0, 1, 2, 3, 4] rfl)
            · have kv45 : q_V 1 1 kx42 := q_ne1 kp39 (q_c (k := 0) (x := 0) (by decide)) kc43 (by decide)
              refine lv_aload_n hx hb dX6_share_137 rfl (lv_at hl 0 rfl) ?_
              refine q_getr hE hW h0 rfl q_k6 3 (by decide) rfl (hE.l wl_115) dX6_share_138 (fun kb46 ekb46 hkb46a hkb46b => ?_)
              have hkb46 : q_T G kb46 = 19 := q_tag hkb46a hkb46b
              refine lv_iload_n hx hb dX6_share_141 rfl (lv_at hl 1 rfl) ?_
              refine lv_iload hx hb dX6_share_142 (lv_at hl 4 rfl) ?_
              refine q_iast hE hW hkb46 rfl (q_in w1 (by decide) (by decide)) trivial (by decide) dX6_share_144 (fun H locs ks47 kp48 hW => ?_)
              refine lv_aload_n hx hb dX6_share_145 rfl (lv_at hl 0 rfl) ?_
              refine lv_iload_n hx hb dX6_share_146 rfl (lv_at hl 1 rfl) ?_
              refine lv_iconst (v := 1) hx hb dX6_share_147 (by decide) ?_
              refine lv_iadd hx hb dX6_share_148 ?_
              refine lv_topi (fun kx49 ekx49 => ?_)
              have vkx49 : q_V 2 2 kx49 := by rw [ekx49]; exact (q_add w1 (q_c (k := 1) (x := 1) (by decide)) (by decide) (by decide)).w (by decide) (by decide)
              have ikx49 : kx49.toInt = i1.toInt + 1 := q_incT ekx49 w1 (by decide) (by decide) (by decide)
              refine lv_iload_n hx hb dX6_share_149 rfl (lv_at hl 2 rfl) ?_
              refine lv_iconst (v := 1) hx hb dX6_share_150 (by decide) ?_
              refine lv_iadd hx hb dX6_share_151 ?_
              refine lv_topi (fun kx50 ekx50 => ?_)
              refine q_gov hW (q_runV (As := [.int kx49, .int kx50]) (rest := []) hE hW (c_X6_share_t2 l G ks47 a0 h0 kx49 vkx49 kx50) kw_X6_71 (q_recv hE hW h0 rfl q_k6) rfl hl.1 rfl (Nat.le_of_ble_eq_true rfl) dX6_share_152 ⟨by decide, by decide⟩ ⟨by decide, by decide⟩) (by decide) (fun ks52 H locs kp51 kf53 hW => ?_)
              exact jn155a _ _ _ kv25 kv29 hW ls (lv_sub hl [0, 1, 2, 3, 4] rfl)
  have jn89a : ∀ (ks55 : q_S) (H : Heap) (locs : List Loc) (kx54 : Int32) (vkx54 : q_V 0 1 kx54) (hW : q_Wd G [16, 18, 19, 20] σ s.heap ks55 H locs) (ls : Array Slot) (hl : lv_has ls 5 [(0, .ref a0), (1, .int i1), (2, .int i2)]), W p l e (q_Rm 9) s m args below meth c H locs 0 0 (MQ below (q_Qv G [16, 18, 19, 20] σ (fun σ1 => True)) args s 0 0 (q_N G)) (F0 m 89 ls [.int kx54]) := by
    intro ks55 H locs kx54 vkx54 hW ls hl
    refine lv_istore_n (lv' := [(3, .int kx54), (0, .ref a0), (1, .int i1), (2, .int i2)]) hx hb dX6_share_89 rfl hl (by decide) rfl (fun ls hl => ?_)
    refine lv_iconst (v := 0) hx hb dX6_share_90 (by decide) ?_
    refine lv_istore (lv' := [(4, .int 0), (3, .int kx54), (0, .ref a0), (1, .int i1), (2, .int i2)]) hx hb dX6_share_91 hl (by decide) rfl (fun ls hl => ?_)
    exact lp93a _ _ _ _ kx54 vkx54 0 ((q_c (k := 0) (x := 0) (by decide)).w (by decide) (by decide)) hW ls (lv_sub hl [2, 3, 4, 1, 0] rfl) (Nat.lt_succ_self _)
  have jn21a : ∀ (ks56 : q_S) (H : Heap) (locs : List Loc) (hW : q_Wd G [16, 18, 19, 20] σ s.heap ks56 H locs) (ls : Array Slot) (hl : lv_has ls 5 [(0, .ref a0), (2, .int i2)]), W p l e (q_Rm 9) s m args below meth c H locs 0 0 (MQ below (q_Qv G [16, 18, 19, 20] σ (fun σ1 => True)) args s 0 0 (q_N G)) (F0 m 21 ls []) := by
    intro ks56 H locs hW ls hl
    refine lv_iload_n hx hb dX6_share_21 rfl (lv_at hl 1 rfl) ?_
    refine lv_aload_n hx hb dX6_share_22 rfl (lv_at hl 0 rfl) ?_
    refine q_geti hE hW h0 rfl q_k6 6 (by decide) rfl (hE.l wl_834) dX6_share_23 (fun kx57 ekx57 vkx57 => ?_)
    refine lv_icmp_le (tgt := 49) hx hb dX6_share_26 (by decide) (fun kc58 => ?_) (fun kc58 => ?_)
    · exact q_retv hE hr hlocks hW (trivial) dX6_share_49
    · have kv59 : q_V (-2147483648) 2147483646 kx57 := (q_lt1 (q_all kx57) (q_all i2) (Int32.not_le.mp kc58)).w (by decide) (by decide)
      have kv60 : q_V (-2147483647) 2147483647 i2 := (q_lt2 (q_all kx57) (q_all i2) (Int32.not_le.mp kc58)).w (by decide) (by decide)
      refine lv_aload_n hx hb dX6_share_29 rfl (lv_at hl 0 rfl) ?_
      refine lv_iload_n hx hb dX6_share_30 rfl (lv_at hl 1 rfl) ?_
      refine q_puti hE hW h0 rfl q_k6 tyX6 tyX6_ok 6 (by decide) rfl (hE.l wl_834) rfl rfl rfl (kv60.w (by decide) (by decide)) (by decide) dX6_share_31 (fun H locs ks61 kp62 hW => ?_)
      refine lv_aload_n hx hb dX6_share_34 rfl (lv_at hl 0 rfl) ?_
      refine q_getr hE hW h0 rfl q_k6 3 (by decide) rfl (hE.l wl_115) dX6_share_35 (fun kb63 ekb63 hkb63a hkb63b => ?_)
      have hkb63 : q_T G kb63 = 19 := q_tag hkb63a hkb63b
      refine lv_iconst (v := 0) hx hb dX6_share_38 (by decide) ?_
      refine lv_aload_n hx hb dX6_share_39 rfl (lv_at hl 0 rfl) ?_
      refine q_getr hE hW h0 rfl q_k6 4 (by decide) rfl (hE.l wl_116) dX6_share_40 (fun kb64 ekb64 hkb64a hkb64b => ?_)
      have hkb64 : q_T G kb64 = 20 := q_tag hkb64a hkb64b
      refine lv_iconst (v := 0) hx hb dX6_share_43 (by decide) ?_
      refine lv_bipush (v := 6) hx hb dX6_share_44 (by decide) ?_
      refine q_acopy hE hW hkb63 hkb64 rfl rfl (Or.inl rfl) (by decide) (by decide) (by decide) (by decide) (by decide) (fun _ _ _ _ => trivial) (by decide) wl_850 wl_201 wl_202 wl_203 hl.1 (by decide) (Nat.le_of_ble_eq_true rfl) dX6_share_46 (fun H locs ks65 kp66 hW => ?_)
      exact q_retv hE hr hlocks hW (trivial) dX6_share_49
  refine lv_iload_n hx hb dX6_share_0 rfl (lv_at hl 1 rfl) ?_
  refine lv_if_lt (tgt := 21) hx hb dX6_share_1 (by decide) (fun kc67 => ?_) (fun kc67 => ?_)
  · have kv68 : q_V 1 (-1) i1 := (q_lt1 w1 (q_c (k := 0) (x := 0) (by decide)) kc67).w (by decide) (by decide)
    exact (kv68.no (by decide))
  · refine lv_iload_n hx hb dX6_share_4 rfl (lv_at hl 1 rfl) ?_
    refine lv_aload_n hx hb dX6_share_5 rfl (lv_at hl 0 rfl) ?_
    refine q_getr hE hW h0 rfl q_k6 0 (by decide) rfl (hE.l wl_112) dX6_share_6 (fun kb69 ekb69 hkb69a hkb69b => ?_)
    have hkb69 : q_T G kb69 = 7 := q_tag hkb69a hkb69b
    refine q_geti hE hW hkb69 rfl q_k2 1 (by decide) rfl (hE.n 19 rfl) dX6_share_9 (fun kx70 ekx70 vkx70 => ?_)
    refine lv_icmp_ge (tgt := 21) hx hb dX6_share_12 (by decide) (fun kc71 => ?_) (fun kc71 => ?_)
    · have kv72 : q_V 0 1 kx70 := (q_le1 vkx70 w1 kc71).w (by decide) (by decide)
      exact jn21a _ _ _ hW ls (lv_sub hl [0, 2] rfl)
    · have kv73 : q_V 2 6 kx70 := (q_lt2 w1 vkx70 (Int32.not_le.mp kc71)).w (by decide) (by decide)
      refine lv_iload_n hx hb dX6_share_15 rfl (lv_at hl 1 rfl) ?_
      refine lv_bipush (v := 6) hx hb dX6_share_16 (by decide) ?_
      refine lv_icmp_lt (tgt := 50) hx hb dX6_share_18 (by decide) (fun kc74 => ?_) (fun kc74 => ?_)
      · refine lv_iload_n hx hb dX6_share_50 rfl (lv_at hl 2 rfl) ?_
        refine lv_aload_n hx hb dX6_share_51 rfl (lv_at hl 0 rfl) ?_
        refine q_getr hE hW h0 rfl q_k6 0 (by decide) rfl (hE.l wl_112) dX6_share_52 (fun kb75 ekb75 hkb75a hkb75b => ?_)
        obtain rfl : kb69 = kb75 := ekb69.symm.trans ekb75
        refine q_geti hE hW hkb69 rfl q_k2 1 (by decide) rfl (hE.n 19 rfl) dX6_share_55 (fun kx76 ekx76 vkx76 => ?_)
        obtain rfl : kx70 = kx76 := ekx70.symm.trans ekx76
        refine lv_iadd hx hb dX6_share_58 ?_
        refine lv_topi (fun kx77 ekx77 => ?_)
        refine lv_iload_n hx hb dX6_share_59 rfl (lv_at hl 1 rfl) ?_
        refine lv_isub hx hb dX6_share_60 ?_
        refine lv_topi (fun kx78 ekx78 => ?_)
        refine lv_aload_n hx hb dX6_share_61 rfl (lv_at hl 0 rfl) ?_
        refine q_geti hE hW h0 rfl q_k6 6 (by decide) rfl (hE.l wl_834) dX6_share_62 (fun kx79 ekx79 vkx79 => ?_)
        refine lv_icmp_gt (tgt := 69) hx hb dX6_share_65 (by decide) (fun kc80 => ?_) (fun kc80 => ?_)
        · have kv81 : q_V (-2147483648) 2147483646 kx79 := (q_lt1 (q_all kx79) (q_all kx78) kc80).w (by decide) (by decide)
          have kv82 : q_V (-2147483647) 2147483647 kx78 := (q_lt2 (q_all kx79) (q_all kx78) kc80).w (by decide) (by decide)
          refine lv_aload_n hx hb dX6_share_69 rfl (lv_at hl 0 rfl) ?_
          refine q_getr hE hW h0 rfl q_k6 0 (by decide) rfl (hE.l wl_112) dX6_share_70 (fun kb83 ekb83 hkb83a hkb83b => ?_)
          obtain rfl : kb69 = kb83 := ekb69.symm.trans ekb83
          refine q_getr hE hW hkb69 rfl q_k2 0 (by decide) rfl (hE.n 17 rfl) dX6_share_73 (fun kb84 ekb84 hkb84a hkb84b => ?_)
          have hkb84 : q_T G kb84 = 8 := q_tag hkb84a hkb84b
          refine lv_iload_n hx hb dX6_share_76 rfl (lv_at hl 1 rfl) ?_
          refine q_aald hE hW hkb84 rfl (q_in w1 (by decide) (by decide)) dX6_share_77 (fun kb85 ekb85 hkb85a hkb85b => ?_)
          have hkb85 : q_T G kb85 = 5 := q_tag hkb85a hkb85b
          refine q_geti hE hW hkb85 rfl q_k1 3 (by decide) rfl (hE.n 10 rfl) dX6_share_78 (fun kx86 ekx86 vkx86 => ?_)
          refine lv_if_ne (tgt := 88) hx hb dX6_share_81 (by decide) (fun kc87 => ?_) (fun kc87 => ?_)
          · refine lv_iconst (v := 0) hx hb dX6_share_88 (by decide) ?_
            exact jn89a _ _ _ 0 ((q_c (k := 0) (x := 0) (by decide)).w (by decide) (by decide)) hW ls (lv_sub hl [0, 1, 2] rfl)
          · have kv88 : q_V 0 0 kx86 := q_eq1 (q_all kx86) (q_c (k := 0) (x := 0) (by decide)) kc87 (by decide) (by decide)
            refine lv_iconst (v := 1) hx hb dX6_share_84 (by decide) ?_
            refine lv_goto (tgt := 89) hx hb dX6_share_85 (by decide) ?_
            exact jn89a _ _ _ 1 ((q_c (k := 1) (x := 1) (by decide)).w (by decide) (by decide)) hW ls (lv_sub hl [0, 1, 2] rfl)
        · exact q_retv hE hr hlocks hW (trivial) dX6_share_68
      · have kv89 : q_V 6 1 6 := (q_le1 (q_c (k := 6) (x := 6) (by decide)) w1 (Int32.not_lt.mp kc74)).w (by decide) (by decide)
        exact (kv89.no (by decide))
set_option maxHeartbeats 4000000 in
set_option maxRecDepth 100000 in
theorem c_X6_share_t0 (l : Launch) (G : q_G) (σ : q_S) (a0 : Nat) (h0 : q_T G a0 = 16) (i1 : Int32) (w1 : q_V 0 0 i1) (i2 : Int32)  : Met l yX6_share (Cond.code yX6_share cX6_share 5 none :: wsL_law) (q_Rm 10) (q_Pre G σ [.ref a0, .int i1, .int i2]) (q_Qv G [16, 18, 19, 20] σ (fun σ1 => True)) 0 0 (q_N G) := by
  refine q_ofW (ts := [16, 18, 19, 20]) (by decide) (Nat.le_of_ble_eq_true rfl) ?_
  intro p e s m args below meth c hE hr hlocks hW ls hl
  have hE : q_E G p s m args c cX6_share 5 RX6 := hE
  have hx := hE.1.1
  have hb := hE.1.2.1
  have hl : lv_has ls 5 [(0, .ref a0), (1, .int i1), (2, .int i2)] := hl
  have jn176a : ∀ (ks1 : q_S) (H : Heap) (locs : List Loc) (hW : q_Wd G [16, 18, 19, 20] σ s.heap ks1 H locs) (ls : Array Slot) (hl : lv_has ls 5 [(0, .ref a0), (1, .int i1), (2, .int i2)]), W p l e (q_Rm 10) s m args below meth c H locs 0 0 (MQ below (q_Qv G [16, 18, 19, 20] σ (fun σ1 => True)) args s 0 0 (q_N G)) (F0 m 176 ls []) := by
    intro ks1 H locs hW ls hl
    refine lv_aload_n hx hb dX6_share_176 rfl (lv_at hl 0 rfl) ?_
    refine q_getr hE hW h0 rfl q_k6 3 (by decide) rfl (hE.l wl_115) dX6_share_177 (fun kb2 ekb2 hkb2a hkb2b => ?_)
    have hkb2 : q_T G kb2 = 19 := q_tag hkb2a hkb2b
    refine lv_iload_n hx hb dX6_share_180 rfl (lv_at hl 1 rfl) ?_
    refine lv_iconst (v := (-1)) hx hb dX6_share_181 (by decide) ?_
    refine q_iast hE hW hkb2 rfl (q_in w1 (by decide) (by decide)) trivial (by decide) dX6_share_182 (fun H locs ks3 kp4 hW => ?_)
    refine lv_aload_n hx hb dX6_share_183 rfl (lv_at hl 0 rfl) ?_
    refine lv_iload_n hx hb dX6_share_184 rfl (lv_at hl 1 rfl) ?_
    refine lv_iconst (v := 1) hx hb dX6_share_185 (by decide) ?_
    refine lv_iadd hx hb dX6_share_186 ?_
    refine lv_topi (fun kx5 ekx5 => ?_)
    have vkx5 : q_V 1 1 kx5 := by rw [ekx5]; exact (q_add w1 (q_c (k := 1) (x := 1) (by decide)) (by decide) (by decide)).w (by decide) (by decide)
    have ikx5 : kx5.toInt = i1.toInt + 1 := q_incT ekx5 w1 (by decide) (by decide) (by decide)
    refine lv_iload_n hx hb dX6_share_187 rfl (lv_at hl 2 rfl) ?_
    refine q_gov hW (q_runV (As := [.int kx5, .int i2]) (rest := []) hE hW (c_X6_share_t1 l G ks3 a0 h0 kx5 vkx5 i2) kw_X6_71 (q_recv hE hW h0 rfl q_k6) rfl hl.1 rfl (Nat.le_of_ble_eq_true rfl) dX6_share_188 ⟨by decide, by decide⟩ ⟨by decide, by decide⟩) (by decide) (fun ks7 H locs kp6 kf8 hW => ?_)
    exact q_retv hE hr hlocks hW (trivial) dX6_share_191
  have lp93a : ∀ (n93a : Nat) (ks11 : q_S) (H : Heap) (locs : List Loc) (kx9 : Int32) (vkx9 : q_V 0 1 kx9) (kx10 : Int32) (vkx10 : q_V 0 3 kx10) (hW : q_Wd G [16, 18, 19, 20] σ s.heap ks11 H locs) (ls : Array Slot) (hl : lv_has ls 5 [(0, .ref a0), (1, .int i1), (2, .int i2), (3, .int kx9), (4, .int kx10)]), (3 - kx10.toInt).toNat < n93a → W p l e (q_Rm 10) s m args below meth c H locs 0 0 (MQ below (q_Qv G [16, 18, 19, 20] σ (fun σ1 => True)) args s 0 0 (q_N G)) (F0 m 93 ls []) := by
    intro n93a
    induction n93a with
    | zero => intro _ _ _ _ _ _ _ _ _ _; exact fun h => absurd h (Nat.not_lt_zero _)
    | succ n93a ih93a =>
      intro ks11 H locs kx9 vkx9 kx10 vkx10 hW ls hl hm93a
      have jn155a : ∀ (ks14 : q_S) (H : Heap) (locs : List Loc) (kv12 : q_V 1 1 kx9) (kv13 : q_V 0 2 kx10) (hW : q_Wd G [16, 18, 19, 20] σ s.heap ks14 H locs) (ls : Array Slot) (hl : lv_has ls 5 [(0, .ref a0), (1, .int i1), (2, .int i2), (3, .int kx9), (4, .int kx10)]), W p l e (q_Rm 10) s m args below meth c H locs 0 0 (MQ below (q_Qv G [16, 18, 19, 20] σ (fun σ1 => True)) args s 0 0 (q_N G)) (F0 m 155 ls []) := by
        intro ks14 H locs kv12 kv13 hW ls hl
        refine lv_aload_n hx hb dX6_share_155 rfl (lv_at hl 0 rfl) ?_
        refine q_getr hE hW h0 rfl q_k6 2 (by decide) rfl (hE.l wl_114) dX6_share_156 (fun kb15 ekb15 hkb15a hkb15b => ?_)
        have hkb15 : q_T G kb15 = 18 := q_tag hkb15a hkb15b
        refine lv_iload hx hb dX6_share_159 (lv_at hl 4 rfl) ?_
        refine lv_dup2_11 hx hb dX6_share_161 rfl rfl ?_
        refine q_iald hE hW hkb15 rfl (q_in kv13 (by decide) (by decide)) dX6_share_162 (fun kx16 ekx16 gkx16 => ?_)
        refine lv_iconst (v := 1) hx hb dX6_share_163 (by decide) ?_
        refine lv_iload_n hx hb dX6_share_164 rfl (lv_at hl 1 rfl) ?_
        refine lv_ishl hx hb dX6_share_165 ?_
        refine lv_topi (fun kx17 ekx17 => ?_)
        refine lv_iconst (v := (-1)) hx hb dX6_share_166 (by decide) ?_
        refine lv_ixor hx hb dX6_share_167 ?_
        refine lv_topi (fun kx18 ekx18 => ?_)
        refine lv_iand hx hb dX6_share_168 ?_
        refine lv_topi (fun kx19 ekx19 => ?_)
        refine q_iast hE hW hkb15 rfl (q_in kv13 (by decide) (by decide)) trivial (by decide) dX6_share_169 (fun H locs ks20 kp21 hW => ?_)
        obtain ⟨kx22, ekx22⟩ : ∃ y : Int32, y = kx10 + 1 := ⟨_, rfl⟩
        have vkx22 : q_V 1 3 kx22 := by rw [ekx22]; exact (q_add kv13 (q_c (k := 1) (x := 1) (by decide)) (by decide) (by decide)).w (by decide) (by decide)
        have ikx22 : kx22.toInt = kx10.toInt + 1 := q_incT ekx22 kv13 (by decide) (by decide) (by decide)
        refine lv_iinc (v := kx22) (lv' := [(4, .int kx22), (0, .ref a0), (1, .int i1), (2, .int i2), (3, .int kx9)]) hx hb dX6_share_170 hl (k := 4) rfl (by rw [ekx22]; rfl) (by decide) rfl (fun ls hl => ?_)
        refine lv_goto (tgt := 93) hx hb dX6_share_173 (by decide) ?_
        exact ih93a _ _ _ kx9 (kv12.w (by decide) (by decide)) kx22 (vkx22.w (by decide) (by decide)) hW ls (lv_sub hl [1, 2, 3, 4, 0] rfl) (Nat.lt_of_lt_of_le (q_up (ikx22) (show q_V 1 3 kx22 from vkx22).2) (Nat.le_of_lt_succ hm93a))
      refine lv_iload_n hx hb dX6_share_93 rfl (lv_at hl 3 rfl) ?_
      refine lv_if_eq (tgt := 176) hx hb dX6_share_94 (by decide) (fun kc23 => ?_) (fun kc23 => ?_)
      · have kv24 : q_V 0 0 kx9 := q_eq1 vkx9 (q_c (k := 0) (x := 0) (by decide)) kc23 (by decide) (by decide)
        exact jn176a _ _ _ hW ls (lv_sub hl [0, 1, 2] rfl)
      · have kv25 : q_V 1 1 kx9 := q_ne1 vkx9 (q_c (k := 0) (x := 0) (by decide)) kc23 (by decide)
        refine lv_iload hx hb dX6_share_97 (lv_at hl 4 rfl) ?_
        refine lv_aload_n hx hb dX6_share_99 rfl (lv_at hl 0 rfl) ?_
        refine q_getr hE hW h0 rfl q_k6 0 (by decide) rfl (hE.l wl_112) dX6_share_100 (fun kb26 ekb26 hkb26a hkb26b => ?_)
        have hkb26 : q_T G kb26 = 7 := q_tag hkb26a hkb26b
        refine q_geti hE hW hkb26 rfl q_k2 4 (by decide) rfl (hE.n 25 rfl) dX6_share_103 (fun kx27 ekx27 vkx27 => ?_)
        refine lv_icmp_ge (tgt := 176) hx hb dX6_share_106 (by decide) (fun kc28 => ?_) (fun kc28 => ?_)
        · exact jn176a _ _ _ hW ls (lv_sub hl [0, 1, 2] rfl)
        · have kv29 : q_V 0 2 kx10 := (q_lt1 vkx10 vkx27 (Int32.not_le.mp kc28)).w (by decide) (by decide)
          have kv30 : q_V 1 3 kx27 := (q_lt2 vkx10 vkx27 (Int32.not_le.mp kc28)).w (by decide) (by decide)
          refine lv_iload hx hb dX6_share_109 (lv_at hl 4 rfl) ?_
          refine lv_iconst (v := 3) hx hb dX6_share_111 (by decide) ?_
          refine lv_icmp_ge (tgt := 176) hx hb dX6_share_112 (by decide) (fun kc31 => ?_) (fun kc31 => ?_)
          · have kv32 : q_V 3 2 3 := (q_le1 (q_c (k := 3) (x := 3) (by decide)) kv29 kc31).w (by decide) (by decide)
            exact (kv32.no (by decide))
          · refine lv_aload_n hx hb dX6_share_115 rfl (lv_at hl 0 rfl) ?_
            refine q_getr hE hW h0 rfl q_k6 2 (by decide) rfl (hE.l wl_114) dX6_share_116 (fun kb33 ekb33 hkb33a hkb33b => ?_)
            have hkb33 : q_T G kb33 = 18 := q_tag hkb33a hkb33b
            refine lv_iload hx hb dX6_share_119 (lv_at hl 4 rfl) ?_
            refine lv_dup2_11 hx hb dX6_share_121 rfl rfl ?_
            refine q_iald hE hW hkb33 rfl (q_in kv29 (by decide) (by decide)) dX6_share_122 (fun kx34 ekx34 gkx34 => ?_)
            refine lv_iconst (v := 1) hx hb dX6_share_123 (by decide) ?_
            refine lv_iload_n hx hb dX6_share_124 rfl (lv_at hl 1 rfl) ?_
            refine lv_ishl hx hb dX6_share_125 ?_
            refine lv_topi (fun kx35 ekx35 => ?_)
            refine lv_ior hx hb dX6_share_126 ?_
            refine lv_topi (fun kx36 ekx36 => ?_)
            refine q_iast hE hW hkb33 rfl (q_in kv29 (by decide) (by decide)) trivial (by decide) dX6_share_127 (fun H locs ks37 kp38 hW => ?_)
            refine lv_aload_n hx hb dX6_share_128 rfl (lv_at hl 0 rfl) ?_
            refine lv_iload hx hb dX6_share_129 (lv_at hl 4 rfl) ?_
            refine q_goi hW (q_runV (As := [.int kx10]) (rest := []) hE hW (c_X6_isInTime l G ks37 a0 h0 kx10) kw_X6_95 (q_recv hE hW h0 rfl q_k6) rfl hl.1 rfl (Nat.le_of_ble_eq_true rfl) dX6_share_131 ⟨by decide, by decide⟩ ⟨by decide, by decide⟩) (by decide) (fun kx42 ks40 H locs kp39 kf41 hW => ?_)
            refine lv_if_eq (tgt := 155) hx hb dX6_share_134 (by decide) (fun kc43 => ?_) (fun kc43 => ?_)
            · have kv44 : q_V 0 0 kx42 := q_eq1 kp39 (q_c (k := 0) (x := 0) (by decide)) kc43 (by decide) (by decide)
              exact jn155a _ _ _ kv25 kv29 hW ls (lv_sub hl [0, 1, 2, 3, 4] rfl)
            · have kv45 : q_V 1 1 kx42 := q_ne1 kp39 (q_c (k := 0) (x := 0) (by decide)) kc43 (by decide)
              refine lv_aload_n hx hb dX6_share_137 rfl (lv_at hl 0 rfl) ?_
              refine q_getr hE hW h0 rfl q_k6 3 (by decide) rfl (hE.l wl_115) dX6_share_138 (fun kb46 ekb46 hkb46a hkb46b => ?_)
              have hkb46 : q_T G kb46 = 19 := q_tag hkb46a hkb46b
              refine lv_iload_n hx hb dX6_share_141 rfl (lv_at hl 1 rfl) ?_
              refine lv_iload hx hb dX6_share_142 (lv_at hl 4 rfl) ?_
              refine q_iast hE hW hkb46 rfl (q_in w1 (by decide) (by decide)) trivial (by decide) dX6_share_144 (fun H locs ks47 kp48 hW => ?_)
              refine lv_aload_n hx hb dX6_share_145 rfl (lv_at hl 0 rfl) ?_
              refine lv_iload_n hx hb dX6_share_146 rfl (lv_at hl 1 rfl) ?_
              refine lv_iconst (v := 1) hx hb dX6_share_147 (by decide) ?_
              refine lv_iadd hx hb dX6_share_148 ?_
              refine lv_topi (fun kx49 ekx49 => ?_)
              have vkx49 : q_V 1 1 kx49 := by rw [ekx49]; exact (q_add w1 (q_c (k := 1) (x := 1) (by decide)) (by decide) (by decide)).w (by decide) (by decide)
              have ikx49 : kx49.toInt = i1.toInt + 1 := q_incT ekx49 w1 (by decide) (by decide) (by decide)
              refine lv_iload_n hx hb dX6_share_149 rfl (lv_at hl 2 rfl) ?_
              refine lv_iconst (v := 1) hx hb dX6_share_150 (by decide) ?_
              refine lv_iadd hx hb dX6_share_151 ?_
              refine lv_topi (fun kx50 ekx50 => ?_)
              refine q_gov hW (q_runV (As := [.int kx49, .int kx50]) (rest := []) hE hW (c_X6_share_t1 l G ks47 a0 h0 kx49 vkx49 kx50) kw_X6_71 (q_recv hE hW h0 rfl q_k6) rfl hl.1 rfl (Nat.le_of_ble_eq_true rfl) dX6_share_152 ⟨by decide, by decide⟩ ⟨by decide, by decide⟩) (by decide) (fun ks52 H locs kp51 kf53 hW => ?_)
              exact jn155a _ _ _ kv25 kv29 hW ls (lv_sub hl [0, 1, 2, 3, 4] rfl)
  have jn89a : ∀ (ks55 : q_S) (H : Heap) (locs : List Loc) (kx54 : Int32) (vkx54 : q_V 0 1 kx54) (hW : q_Wd G [16, 18, 19, 20] σ s.heap ks55 H locs) (ls : Array Slot) (hl : lv_has ls 5 [(0, .ref a0), (1, .int i1), (2, .int i2)]), W p l e (q_Rm 10) s m args below meth c H locs 0 0 (MQ below (q_Qv G [16, 18, 19, 20] σ (fun σ1 => True)) args s 0 0 (q_N G)) (F0 m 89 ls [.int kx54]) := by
    intro ks55 H locs kx54 vkx54 hW ls hl
    refine lv_istore_n (lv' := [(3, .int kx54), (0, .ref a0), (1, .int i1), (2, .int i2)]) hx hb dX6_share_89 rfl hl (by decide) rfl (fun ls hl => ?_)
    refine lv_iconst (v := 0) hx hb dX6_share_90 (by decide) ?_
    refine lv_istore (lv' := [(4, .int 0), (3, .int kx54), (0, .ref a0), (1, .int i1), (2, .int i2)]) hx hb dX6_share_91 hl (by decide) rfl (fun ls hl => ?_)
    exact lp93a _ _ _ _ kx54 vkx54 0 ((q_c (k := 0) (x := 0) (by decide)).w (by decide) (by decide)) hW ls (lv_sub hl [2, 3, 4, 1, 0] rfl) (Nat.lt_succ_self _)
  have jn21a : ∀ (ks56 : q_S) (H : Heap) (locs : List Loc) (hW : q_Wd G [16, 18, 19, 20] σ s.heap ks56 H locs) (ls : Array Slot) (hl : lv_has ls 5 [(0, .ref a0), (2, .int i2)]), W p l e (q_Rm 10) s m args below meth c H locs 0 0 (MQ below (q_Qv G [16, 18, 19, 20] σ (fun σ1 => True)) args s 0 0 (q_N G)) (F0 m 21 ls []) := by
    intro ks56 H locs hW ls hl
    refine lv_iload_n hx hb dX6_share_21 rfl (lv_at hl 1 rfl) ?_
    refine lv_aload_n hx hb dX6_share_22 rfl (lv_at hl 0 rfl) ?_
    refine q_geti hE hW h0 rfl q_k6 6 (by decide) rfl (hE.l wl_834) dX6_share_23 (fun kx57 ekx57 vkx57 => ?_)
    refine lv_icmp_le (tgt := 49) hx hb dX6_share_26 (by decide) (fun kc58 => ?_) (fun kc58 => ?_)
    · exact q_retv hE hr hlocks hW (trivial) dX6_share_49
    · have kv59 : q_V (-2147483648) 2147483646 kx57 := (q_lt1 (q_all kx57) (q_all i2) (Int32.not_le.mp kc58)).w (by decide) (by decide)
      have kv60 : q_V (-2147483647) 2147483647 i2 := (q_lt2 (q_all kx57) (q_all i2) (Int32.not_le.mp kc58)).w (by decide) (by decide)
      refine lv_aload_n hx hb dX6_share_29 rfl (lv_at hl 0 rfl) ?_
      refine lv_iload_n hx hb dX6_share_30 rfl (lv_at hl 1 rfl) ?_
      refine q_puti hE hW h0 rfl q_k6 tyX6 tyX6_ok 6 (by decide) rfl (hE.l wl_834) rfl rfl rfl (kv60.w (by decide) (by decide)) (by decide) dX6_share_31 (fun H locs ks61 kp62 hW => ?_)
      refine lv_aload_n hx hb dX6_share_34 rfl (lv_at hl 0 rfl) ?_
      refine q_getr hE hW h0 rfl q_k6 3 (by decide) rfl (hE.l wl_115) dX6_share_35 (fun kb63 ekb63 hkb63a hkb63b => ?_)
      have hkb63 : q_T G kb63 = 19 := q_tag hkb63a hkb63b
      refine lv_iconst (v := 0) hx hb dX6_share_38 (by decide) ?_
      refine lv_aload_n hx hb dX6_share_39 rfl (lv_at hl 0 rfl) ?_
      refine q_getr hE hW h0 rfl q_k6 4 (by decide) rfl (hE.l wl_116) dX6_share_40 (fun kb64 ekb64 hkb64a hkb64b => ?_)
      have hkb64 : q_T G kb64 = 20 := q_tag hkb64a hkb64b
      refine lv_iconst (v := 0) hx hb dX6_share_43 (by decide) ?_
      refine lv_bipush (v := 6) hx hb dX6_share_44 (by decide) ?_
      refine q_acopy hE hW hkb63 hkb64 rfl rfl (Or.inl rfl) (by decide) (by decide) (by decide) (by decide) (by decide) (fun _ _ _ _ => trivial) (by decide) wl_850 wl_201 wl_202 wl_203 hl.1 (by decide) (Nat.le_of_ble_eq_true rfl) dX6_share_46 (fun H locs ks65 kp66 hW => ?_)
      exact q_retv hE hr hlocks hW (trivial) dX6_share_49
  refine lv_iload_n hx hb dX6_share_0 rfl (lv_at hl 1 rfl) ?_
  refine lv_if_lt (tgt := 21) hx hb dX6_share_1 (by decide) (fun kc67 => ?_) (fun kc67 => ?_)
  · have kv68 : q_V 0 (-1) i1 := (q_lt1 w1 (q_c (k := 0) (x := 0) (by decide)) kc67).w (by decide) (by decide)
    exact (kv68.no (by decide))
  · refine lv_iload_n hx hb dX6_share_4 rfl (lv_at hl 1 rfl) ?_
    refine lv_aload_n hx hb dX6_share_5 rfl (lv_at hl 0 rfl) ?_
    refine q_getr hE hW h0 rfl q_k6 0 (by decide) rfl (hE.l wl_112) dX6_share_6 (fun kb69 ekb69 hkb69a hkb69b => ?_)
    have hkb69 : q_T G kb69 = 7 := q_tag hkb69a hkb69b
    refine q_geti hE hW hkb69 rfl q_k2 1 (by decide) rfl (hE.n 19 rfl) dX6_share_9 (fun kx70 ekx70 vkx70 => ?_)
    refine lv_icmp_ge (tgt := 21) hx hb dX6_share_12 (by decide) (fun kc71 => ?_) (fun kc71 => ?_)
    · have kv72 : q_V 0 0 kx70 := (q_le1 vkx70 w1 kc71).w (by decide) (by decide)
      exact jn21a _ _ _ hW ls (lv_sub hl [0, 2] rfl)
    · have kv73 : q_V 1 6 kx70 := (q_lt2 w1 vkx70 (Int32.not_le.mp kc71)).w (by decide) (by decide)
      refine lv_iload_n hx hb dX6_share_15 rfl (lv_at hl 1 rfl) ?_
      refine lv_bipush (v := 6) hx hb dX6_share_16 (by decide) ?_
      refine lv_icmp_lt (tgt := 50) hx hb dX6_share_18 (by decide) (fun kc74 => ?_) (fun kc74 => ?_)
      · refine lv_iload_n hx hb dX6_share_50 rfl (lv_at hl 2 rfl) ?_
        refine lv_aload_n hx hb dX6_share_51 rfl (lv_at hl 0 rfl) ?_
        refine q_getr hE hW h0 rfl q_k6 0 (by decide) rfl (hE.l wl_112) dX6_share_52 (fun kb75 ekb75 hkb75a hkb75b => ?_)
        obtain rfl : kb69 = kb75 := ekb69.symm.trans ekb75
        refine q_geti hE hW hkb69 rfl q_k2 1 (by decide) rfl (hE.n 19 rfl) dX6_share_55 (fun kx76 ekx76 vkx76 => ?_)
        obtain rfl : kx70 = kx76 := ekx70.symm.trans ekx76
        refine lv_iadd hx hb dX6_share_58 ?_
        refine lv_topi (fun kx77 ekx77 => ?_)
        refine lv_iload_n hx hb dX6_share_59 rfl (lv_at hl 1 rfl) ?_
        refine lv_isub hx hb dX6_share_60 ?_
        refine lv_topi (fun kx78 ekx78 => ?_)
        have vkx78 : q_V (-2147483648) 2147483647 kx78 := by rw [ekx78]; exact (q_sub (q_all kx77) w1 (by decide) (by decide)).w (by decide) (by decide)
        refine lv_aload_n hx hb dX6_share_61 rfl (lv_at hl 0 rfl) ?_
        refine q_geti hE hW h0 rfl q_k6 6 (by decide) rfl (hE.l wl_834) dX6_share_62 (fun kx79 ekx79 vkx79 => ?_)
        refine lv_icmp_gt (tgt := 69) hx hb dX6_share_65 (by decide) (fun kc80 => ?_) (fun kc80 => ?_)
        · have kv81 : q_V (-2147483648) 2147483646 kx79 := (q_lt1 (q_all kx79) vkx78 kc80).w (by decide) (by decide)
          have kv82 : q_V (-2147483647) 2147483647 kx78 := (q_lt2 (q_all kx79) vkx78 kc80).w (by decide) (by decide)
          refine lv_aload_n hx hb dX6_share_69 rfl (lv_at hl 0 rfl) ?_
          refine q_getr hE hW h0 rfl q_k6 0 (by decide) rfl (hE.l wl_112) dX6_share_70 (fun kb83 ekb83 hkb83a hkb83b => ?_)
          obtain rfl : kb69 = kb83 := ekb69.symm.trans ekb83
          refine q_getr hE hW hkb69 rfl q_k2 0 (by decide) rfl (hE.n 17 rfl) dX6_share_73 (fun kb84 ekb84 hkb84a hkb84b => ?_)
          have hkb84 : q_T G kb84 = 8 := q_tag hkb84a hkb84b
          refine lv_iload_n hx hb dX6_share_76 rfl (lv_at hl 1 rfl) ?_
          refine q_aald hE hW hkb84 rfl (q_in w1 (by decide) (by decide)) dX6_share_77 (fun kb85 ekb85 hkb85a hkb85b => ?_)
          have hkb85 : q_T G kb85 = 5 := q_tag hkb85a hkb85b
          refine q_geti hE hW hkb85 rfl q_k1 3 (by decide) rfl (hE.n 10 rfl) dX6_share_78 (fun kx86 ekx86 vkx86 => ?_)
          refine lv_if_ne (tgt := 88) hx hb dX6_share_81 (by decide) (fun kc87 => ?_) (fun kc87 => ?_)
          · refine lv_iconst (v := 0) hx hb dX6_share_88 (by decide) ?_
            exact jn89a _ _ _ 0 ((q_c (k := 0) (x := 0) (by decide)).w (by decide) (by decide)) hW ls (lv_sub hl [0, 1, 2] rfl)
          · have kv88 : q_V 0 0 kx86 := q_eq1 (q_all kx86) (q_c (k := 0) (x := 0) (by decide)) kc87 (by decide) (by decide)
            refine lv_iconst (v := 1) hx hb dX6_share_84 (by decide) ?_
            refine lv_goto (tgt := 89) hx hb dX6_share_85 (by decide) ?_
            exact jn89a _ _ _ 1 ((q_c (k := 1) (x := 1) (by decide)).w (by decide) (by decide)) hW ls (lv_sub hl [0, 1, 2] rfl)
        · exact q_retv hE hr hlocks hW (trivial) dX6_share_68
      · have kv89 : q_V 6 0 6 := (q_le1 (q_c (k := 6) (x := 6) (by decide)) w1 (Int32.not_lt.mp kc74)).w (by decide) (by decide)
        exact (kv89.no (by decide))
set_option maxHeartbeats 4000000 in
set_option maxRecDepth 100000 in
theorem c_X6_make (l : Launch) (G : q_G) (σ : q_S) (a0 : Nat) (h0 : q_T G a0 = 16)  : Met l yX6_make (Cond.code yX6_make cX6_make 3 none :: wsL_law) (q_Rm 12) (q_Pre G σ [.ref a0]) (q_Qv G [16, 17, 18, 19, 20, 22] σ (fun σ1 => True)) 0 0 (q_N G) := by
  refine q_ofW (ts := [16, 17, 18, 19, 20, 22]) (by decide) (Nat.le_of_ble_eq_true rfl) ?_
  intro p e s m args below meth c hE hr hlocks hW ls hl
  have hE : q_E G p s m args c cX6_make 3 RX6 := hE
  have hx := hE.1.1
  have hb := hE.1.2.1
  have hl : lv_has ls 3 [(0, .ref a0)] := hl
  have jn123a : ∀ (ks1 : q_S) (H : Heap) (locs : List Loc) (hW : q_Wd G [16, 17, 18, 19, 20, 22] σ s.heap ks1 H locs) (ls : Array Slot) (hl : lv_has ls 3 [(0, .ref a0)]), W p l e (q_Rm 12) s m args below meth c H locs 0 0 (MQ below (q_Qv G [16, 17, 18, 19, 20, 22] σ (fun σ1 => True)) args s 0 0 (q_N G)) (F0 m 123 ls []) := by
    intro ks1 H locs hW ls hl
    refine lv_aload_n hx hb dX6_make_123 rfl (lv_at hl 0 rfl) ?_
    refine lv_iconst (v := 0) hx hb dX6_make_124 (by decide) ?_
    refine lv_iconst (v := 0) hx hb dX6_make_125 (by decide) ?_
    refine q_gov hW (q_runV (As := [.int 0, .int 0]) (rest := []) hE hW (c_X6_share_t0 l G ks1 a0 h0 0 (q_c (k := 0) (x := 0) (by decide)) 0) kw_X6_71 (q_recv hE hW h0 rfl q_k6) rfl hl.1 rfl (Nat.le_of_ble_eq_true rfl) dX6_make_126 ⟨by decide, by decide⟩ ⟨by decide, by decide⟩) (by decide) (fun ks3 H locs kp2 kf4 hW => ?_)
    exact q_retv hE hr hlocks hW (trivial) dX6_make_129
  have lp35a : ∀ (n35a : Nat) (ks6 : q_S) (H : Heap) (locs : List Loc) (kx5 : Int32) (vkx5 : q_V 0 3 kx5) (hW : q_Wd G [16, 17, 18, 19, 20, 22] σ s.heap ks6 H locs) (ls : Array Slot) (hl : lv_has ls 3 [(0, .ref a0), (1, .int kx5)]), (3 - kx5.toInt).toNat < n35a → W p l e (q_Rm 12) s m args below meth c H locs 0 0 (MQ below (q_Qv G [16, 17, 18, 19, 20, 22] σ (fun σ1 => True)) args s 0 0 (q_N G)) (F0 m 35 ls []) := by
    intro n35a
    induction n35a with
    | zero => intro _ _ _ _ _ _ _ _; exact fun h => absurd h (Nat.not_lt_zero _)
    | succ n35a ih35a =>
      intro ks6 H locs kx5 vkx5 hW ls hl hm35a
      have jn117a : ∀ (ks8 : q_S) (H : Heap) (locs : List Loc) (kv7 : q_V 0 2 kx5) (hW : q_Wd G [16, 17, 18, 19, 20, 22] σ s.heap ks8 H locs) (ls : Array Slot) (hl : lv_has ls 3 [(0, .ref a0), (1, .int kx5)]), W p l e (q_Rm 12) s m args below meth c H locs 0 0 (MQ below (q_Qv G [16, 17, 18, 19, 20, 22] σ (fun σ1 => True)) args s 0 0 (q_N G)) (F0 m 117 ls []) := by
        intro ks8 H locs kv7 hW ls hl
        obtain ⟨kx9, ekx9⟩ : ∃ y : Int32, y = kx5 + 1 := ⟨_, rfl⟩
        have vkx9 : q_V 1 3 kx9 := by rw [ekx9]; exact (q_add kv7 (q_c (k := 1) (x := 1) (by decide)) (by decide) (by decide)).w (by decide) (by decide)
        have ikx9 : kx9.toInt = kx5.toInt + 1 := q_incT ekx9 kv7 (by decide) (by decide) (by decide)
        refine lv_iinc (v := kx9) (lv' := [(1, .int kx9), (0, .ref a0)]) hx hb dX6_make_117 hl (k := 1) rfl (by rw [ekx9]; rfl) (by decide) rfl (fun ls hl => ?_)
        refine lv_goto (tgt := 35) hx hb dX6_make_120 (by decide) ?_
        exact ih35a _ _ _ kx9 (vkx9.w (by decide) (by decide)) hW ls (lv_sub hl [1, 0] rfl) (Nat.lt_of_lt_of_le (q_up (ikx9) (show q_V 1 3 kx9 from vkx9).2) (Nat.le_of_lt_succ hm35a))
      have lp53a : ∀ (n53a : Nat) (ks12 : q_S) (H : Heap) (locs : List Loc) (kv10 : q_V 0 2 kx5) (kx11 : Int32) (vkx11 : q_V 0 6 kx11) (hW : q_Wd G [16, 17, 18, 19, 20, 22] σ s.heap ks12 H locs) (ls : Array Slot) (hl : lv_has ls 3 [(0, .ref a0), (1, .int kx5), (2, .int kx11)]), (6 - kx11.toInt).toNat < n53a → W p l e (q_Rm 12) s m args below meth c H locs 0 0 (MQ below (q_Qv G [16, 17, 18, 19, 20, 22] σ (fun σ1 => True)) args s 0 0 (q_N G)) (F0 m 53 ls []) := by
        intro n53a
        induction n53a with
        | zero => intro _ _ _ _ _ _ _ _ _; exact fun h => absurd h (Nat.not_lt_zero _)
        | succ n53a ih53a =>
          intro ks12 H locs kv10 kx11 vkx11 hW ls hl hm53a
          refine lv_iload_n hx hb dX6_make_53 rfl (lv_at hl 2 rfl) ?_
          refine lv_aload_n hx hb dX6_make_54 rfl (lv_at hl 0 rfl) ?_
          refine q_getr hE hW h0 rfl q_k6 0 (by decide) rfl (hE.l wl_112) dX6_make_55 (fun kb13 ekb13 hkb13a hkb13b => ?_)
          have hkb13 : q_T G kb13 = 7 := q_tag hkb13a hkb13b
          refine q_geti hE hW hkb13 rfl q_k2 1 (by decide) rfl (hE.n 19 rfl) dX6_make_58 (fun kx14 ekx14 vkx14 => ?_)
          refine lv_icmp_ge (tgt := 117) hx hb dX6_make_61 (by decide) (fun kc15 => ?_) (fun kc15 => ?_)
          · exact jn117a _ _ _ kv10 hW ls (lv_sub hl [0, 1] rfl)
          · have kv16 : q_V 0 5 kx11 := (q_lt1 vkx11 vkx14 (Int32.not_le.mp kc15)).w (by decide) (by decide)
            have kv17 : q_V 1 6 kx14 := (q_lt2 vkx11 vkx14 (Int32.not_le.mp kc15)).w (by decide) (by decide)
            refine lv_iload_n hx hb dX6_make_64 rfl (lv_at hl 2 rfl) ?_
            refine lv_bipush (v := 6) hx hb dX6_make_65 (by decide) ?_
            refine lv_icmp_ge (tgt := 117) hx hb dX6_make_67 (by decide) (fun kc18 => ?_) (fun kc18 => ?_)
            · have kv19 : q_V 6 5 6 := (q_le1 (q_c (k := 6) (x := 6) (by decide)) kv16 kc18).w (by decide) (by decide)
              exact (kv19.no (by decide))
            · refine lv_aload_n hx hb dX6_make_70 rfl (lv_at hl 0 rfl) ?_
              refine q_getr hE hW h0 rfl q_k6 5 (by decide) rfl (hE.l wl_118) dX6_make_71 (fun kb20 ekb20 hkb20a hkb20b => ?_)
              have hkb20 : q_T G kb20 = 21 := q_tag hkb20a hkb20b
              refine lv_iload_n hx hb dX6_make_74 rfl (lv_at hl 1 rfl) ?_
              refine q_aald hE hW hkb20 rfl (q_in kv10 (by decide) (by decide)) dX6_make_75 (fun kb21 ekb21 hkb21a hkb21b => ?_)
              have hkb21 : q_T G kb21 = 22 := q_tag hkb21a hkb21b
              refine lv_iload_n hx hb dX6_make_76 rfl (lv_at hl 2 rfl) ?_
              refine lv_aload_n hx hb dX6_make_77 rfl (lv_at hl 0 rfl) ?_
              refine q_getr hE hW h0 rfl q_k6 0 (by decide) rfl (hE.l wl_112) dX6_make_78 (fun kb22 ekb22 hkb22a hkb22b => ?_)
              obtain rfl : kb13 = kb22 := ekb13.symm.trans ekb22
              refine q_getr hE hW hkb13 rfl q_k2 0 (by decide) rfl (hE.n 17 rfl) dX6_make_81 (fun kb23 ekb23 hkb23a hkb23b => ?_)
              have hkb23 : q_T G kb23 = 8 := q_tag hkb23a hkb23b
              refine lv_iload_n hx hb dX6_make_84 rfl (lv_at hl 2 rfl) ?_
              refine q_aald hE hW hkb23 rfl (q_in kv16 (by decide) (by decide)) dX6_make_85 (fun kb24 ekb24 hkb24a hkb24b => ?_)
              have hkb24 : q_T G kb24 = 5 := q_tag hkb24a hkb24b
              refine lv_aload_n hx hb dX6_make_86 rfl (lv_at hl 0 rfl) ?_
              refine q_getr hE hW h0 rfl q_k6 0 (by decide) rfl (hE.l wl_112) dX6_make_87 (fun kb25 ekb25 hkb25a hkb25b => ?_)
              obtain rfl : kb13 = kb25 := ekb13.symm.trans ekb25
              refine q_getr hE hW hkb13 rfl q_k2 0 (by decide) rfl (hE.n 17 rfl) dX6_make_90 (fun kb26 ekb26 hkb26a hkb26b => ?_)
              obtain rfl : kb23 = kb26 := ekb23.symm.trans ekb26
              refine lv_iload_n hx hb dX6_make_93 rfl (lv_at hl 2 rfl) ?_
              refine q_aald hE hW hkb23 rfl (q_in kv16 (by decide) (by decide)) dX6_make_94 (fun kb27 ekb27 hkb27a hkb27b => ?_)
              obtain rfl : kb24 = kb27 := ekb24.symm.trans ekb27
              refine q_getr hE hW hkb24 rfl q_k1 0 (by decide) rfl (hE.n 2 rfl) dX6_make_95 (fun kb28 ekb28 hkb28a hkb28b => ?_)
              refine lv_aload_n hx hb dX6_make_98 rfl (lv_at hl 0 rfl) ?_
              refine q_getr hE hW h0 rfl q_k6 0 (by decide) rfl (hE.l wl_112) dX6_make_99 (fun kb29 ekb29 hkb29a hkb29b => ?_)
              obtain rfl : kb13 = kb29 := ekb13.symm.trans ekb29
              refine q_getr hE hW hkb13 rfl q_k2 2 (by decide) rfl (hE.n 22 rfl) dX6_make_102 (fun kb30 ekb30 hkb30a hkb30b => ?_)
              have hkb30 : q_T G kb30 = 9 := q_tag hkb30a hkb30b
              refine lv_iload_n hx hb dX6_make_105 rfl (lv_at hl 1 rfl) ?_
              refine q_iald hE hW hkb30 rfl (q_in kv10 (by decide) (by decide)) dX6_make_106 (fun kx31 ekx31 gkx31 => ?_)
              refine q_goi hW (q_runV (As := [.ref kb28, .int kx31]) (rest := [.int kx11, .ref kb21]) hE hW (c_X1_hoursAs l G ks12 kb24 hkb24 kb28 (Int.le_trans (by decide) hkb28a) (Int.le_trans hkb28b (by decide)) kx31) kw_X6_67 (q_recv hE hW hkb24 rfl q_k1) rfl hl.1 rfl (Nat.le_of_ble_eq_true rfl) dX6_make_107 ⟨by decide, by decide⟩ ⟨by decide, by decide⟩) (by decide) (fun kx35 ks33 H locs kp32 kf34 hW => ?_)
              refine q_iast hE hW hkb21 rfl (q_in kv16 (by decide) (by decide)) trivial (by decide) dX6_make_110 (fun H locs ks36 kp37 hW => ?_)
              obtain ⟨kx38, ekx38⟩ : ∃ y : Int32, y = kx11 + 1 := ⟨_, rfl⟩
              have vkx38 : q_V 1 6 kx38 := by rw [ekx38]; exact (q_add kv16 (q_c (k := 1) (x := 1) (by decide)) (by decide) (by decide)).w (by decide) (by decide)
              have ikx38 : kx38.toInt = kx11.toInt + 1 := q_incT ekx38 kv16 (by decide) (by decide) (by decide)
              refine lv_iinc (v := kx38) (lv' := [(2, .int kx38), (0, .ref a0), (1, .int kx5)]) hx hb dX6_make_111 hl (k := 2) rfl (by rw [ekx38]; rfl) (by decide) rfl (fun ls hl => ?_)
              refine lv_goto (tgt := 53) hx hb dX6_make_114 (by decide) ?_
              exact ih53a _ _ _ kv10 kx38 (vkx38.w (by decide) (by decide)) hW ls (lv_sub hl [1, 2, 0] rfl) (Nat.lt_of_lt_of_le (q_up (ikx38) (show q_V 1 6 kx38 from vkx38).2) (Nat.le_of_lt_succ hm53a))
      refine lv_iload_n hx hb dX6_make_35 rfl (lv_at hl 1 rfl) ?_
      refine lv_aload_n hx hb dX6_make_36 rfl (lv_at hl 0 rfl) ?_
      refine q_getr hE hW h0 rfl q_k6 0 (by decide) rfl (hE.l wl_112) dX6_make_37 (fun kb39 ekb39 hkb39a hkb39b => ?_)
      have hkb39 : q_T G kb39 = 7 := q_tag hkb39a hkb39b
      refine q_geti hE hW hkb39 rfl q_k2 4 (by decide) rfl (hE.n 25 rfl) dX6_make_40 (fun kx40 ekx40 vkx40 => ?_)
      refine lv_icmp_ge (tgt := 123) hx hb dX6_make_43 (by decide) (fun kc41 => ?_) (fun kc41 => ?_)
      · exact jn123a _ _ _ hW ls (lv_sub hl [0] rfl)
      · have kv42 : q_V 0 2 kx5 := (q_lt1 vkx5 vkx40 (Int32.not_le.mp kc41)).w (by decide) (by decide)
        have kv43 : q_V 1 3 kx40 := (q_lt2 vkx5 vkx40 (Int32.not_le.mp kc41)).w (by decide) (by decide)
        refine lv_iload_n hx hb dX6_make_46 rfl (lv_at hl 1 rfl) ?_
        refine lv_iconst (v := 3) hx hb dX6_make_47 (by decide) ?_
        refine lv_icmp_ge (tgt := 123) hx hb dX6_make_48 (by decide) (fun kc44 => ?_) (fun kc44 => ?_)
        · have kv45 : q_V 3 2 3 := (q_le1 (q_c (k := 3) (x := 3) (by decide)) kv42 kc44).w (by decide) (by decide)
          exact (kv45.no (by decide))
        · refine lv_iconst (v := 0) hx hb dX6_make_51 (by decide) ?_
          refine lv_istore_n (lv' := [(2, .int 0), (0, .ref a0), (1, .int kx5)]) hx hb dX6_make_52 rfl hl (by decide) rfl (fun ls hl => ?_)
          exact lp53a _ _ _ _ kv42 0 ((q_c (k := 0) (x := 0) (by decide)).w (by decide) (by decide)) hW ls (lv_sub hl [1, 2, 0] rfl) (Nat.lt_succ_self _)
  refine lv_aload_n hx hb dX6_make_0 rfl (lv_at hl 0 rfl) ?_
  refine lv_iconst (v := (-1)) hx hb dX6_make_1 (by decide) ?_
  refine q_puti hE hW h0 rfl q_k6 tyX6 tyX6_ok 6 (by decide) rfl (hE.l wl_834) rfl rfl rfl ((q_c (k := (-1)) (x := (-1)) (by decide)).w (by decide) (by decide)) (by decide) dX6_make_2 (fun H locs ks46 kp47 hW => ?_)
  refine lv_aload_n hx hb dX6_make_5 rfl (lv_at hl 0 rfl) ?_
  refine q_getr hE hW h0 rfl q_k6 2 (by decide) rfl (hE.l wl_114) dX6_make_6 (fun kb48 ekb48 hkb48a hkb48b => ?_)
  have hkb48 : q_T G kb48 = 18 := q_tag hkb48a hkb48b
  refine lv_iconst (v := 0) hx hb dX6_make_9 (by decide) ?_
  refine q_gov hW (q_runS (As := [.ref kb48, .int 0]) (rest := []) hE hW (c_J7_fill_53178_t18 l G ks46 kb48 hkb48 0) kw_X6_37 rfl hl.1 rfl (Nat.le_of_ble_eq_true rfl) dX6_make_10 ⟨by decide, by decide⟩ ⟨by decide, by decide⟩) (by decide) (fun ks50 H locs kp49 kf51 hW => ?_)
  refine lv_aload_n hx hb dX6_make_13 rfl (lv_at hl 0 rfl) ?_
  refine q_getr hE hW h0 rfl q_k6 3 (by decide) rfl (hE.l wl_115) dX6_make_14 (fun kb52 ekb52 hkb52a hkb52b => ?_)
  have hkb52 : q_T G kb52 = 19 := q_tag hkb52a hkb52b
  refine lv_iconst (v := (-1)) hx hb dX6_make_17 (by decide) ?_
  refine q_gov hW (q_runS (As := [.ref kb52, .int (-1)]) (rest := []) hE hW (c_J7_fill_53178_t19 l G ks50 kb52 hkb52 (-1)) kw_X6_37 rfl hl.1 rfl (Nat.le_of_ble_eq_true rfl) dX6_make_18 ⟨by decide, by decide⟩ ⟨by decide, by decide⟩) (by decide) (fun ks54 H locs kp53 kf55 hW => ?_)
  refine lv_aload_n hx hb dX6_make_21 rfl (lv_at hl 0 rfl) ?_
  refine q_getr hE hW h0 rfl q_k6 4 (by decide) rfl (hE.l wl_116) dX6_make_22 (fun kb56 ekb56 hkb56a hkb56b => ?_)
  have hkb56 : q_T G kb56 = 20 := q_tag hkb56a hkb56b
  refine lv_iconst (v := (-1)) hx hb dX6_make_25 (by decide) ?_
  refine q_gov hW (q_runS (As := [.ref kb56, .int (-1)]) (rest := []) hE hW (c_J7_fill_53178_t20 l G ks54 kb56 hkb56 (-1)) kw_X6_37 rfl hl.1 rfl (Nat.le_of_ble_eq_true rfl) dX6_make_26 ⟨by decide, by decide⟩ ⟨by decide, by decide⟩) (by decide) (fun ks58 H locs kp57 kf59 hW => ?_)
  refine lv_aload_n hx hb dX6_make_29 rfl (lv_at hl 0 rfl) ?_
  refine q_gov hW (q_runV (As := []) (rest := []) hE hW (c_X6_sortByDue l G ks58 a0 h0) kw_X6_43 (q_recv hE hW h0 rfl q_k6) rfl hl.1 rfl (Nat.le_of_ble_eq_true rfl) dX6_make_30 ⟨by decide, by decide⟩ ⟨by decide, by decide⟩) (by decide) (fun ks61 H locs kp60 kf62 hW => ?_)
  refine lv_iconst (v := 0) hx hb dX6_make_33 (by decide) ?_
  refine lv_istore_n (lv' := [(1, .int 0), (0, .ref a0)]) hx hb dX6_make_34 rfl hl (by decide) rfl (fun ls hl => ?_)
  exact lp35a _ _ _ _ 0 ((q_c (k := 0) (x := 0) (by decide)).w (by decide) (by decide)) hW ls (lv_sub hl [1, 0] rfl) (Nat.lt_succ_self _)
set_option maxHeartbeats 4000000 in
set_option maxRecDepth 100000 in
theorem c_X11_plan (l : Launch) (G : q_G) (σ : q_S) (a0 : Nat) (h0 : q_T G a0 = 26) (i1 : Int32)  : Met l yX11_plan (Cond.code yX11_plan cX11_plan 2 (some .int) :: wsL_law) (q_Rm 13) (q_Pre G σ [.ref a0, .int i1]) (q_Qi G [16, 17, 18, 19, 20, 22] σ (fun r σ1 => q_V (-2147483648) 2147483647 r)) 0 0 (q_N G) := by
  refine q_ofW (ts := [16, 17, 18, 19, 20, 22]) (by decide) (Nat.le_of_ble_eq_true rfl) ?_
  intro p e s m args below meth c hE hr hlocks hW ls hl
  have hE : q_E G p s m args c cX11_plan 2 RX11 := hE
  have hx := hE.1.1
  have hb := hE.1.2.1
  have hl : lv_has ls 2 [(0, .ref a0), (1, .int i1)] := hl
  have jn19a : ∀ (ks1 : q_S) (H : Heap) (locs : List Loc) (hW : q_Wd G [16, 17, 18, 19, 20, 22] σ s.heap ks1 H locs) (ls : Array Slot) (hl : lv_has ls 2 [(0, .ref a0), (1, .int i1)]), W p l e (q_Rm 13) s m args below meth c H locs 0 0 (MQ below (q_Qi G [16, 17, 18, 19, 20, 22] σ (fun r σ1 => q_V (-2147483648) 2147483647 r)) args s 0 0 (q_N G)) (F0 m 19 ls []) := by
    intro ks1 H locs hW ls hl
    refine lv_aload_n hx hb dX11_plan_19 rfl (lv_at hl 0 rfl) ?_
    refine q_getr hE hW h0 rfl q_k11 7 (by decide) rfl (hE.l wl_44) dX11_plan_20 (fun kb2 ekb2 hkb2a hkb2b => ?_)
    have hkb2 : q_T G kb2 = 16 := q_tag hkb2a hkb2b
    refine q_gov hW (q_runV (As := []) (rest := []) hE hW (c_X6_make l G ks1 kb2 hkb2) kw_X11_241 (q_recv hE hW hkb2 rfl q_k6) rfl hl.1 rfl (Nat.le_of_ble_eq_true rfl) dX11_plan_23 ⟨by decide, by decide⟩ ⟨by decide, by decide⟩) (by decide) (fun ks4 H locs kp3 kf5 hW => ?_)
    refine lv_iload_n hx hb dX11_plan_26 rfl (lv_at hl 1 rfl) ?_
    refine lv_iconst (v := (-1)) hx hb dX11_plan_27 (by decide) ?_
    refine lv_icmp_ne (tgt := 41) hx hb dX11_plan_28 (by decide) (fun kc6 => ?_) (fun kc6 => ?_)
    · refine lv_aload_n hx hb dX11_plan_41 rfl (lv_at hl 0 rfl) ?_
      refine q_getr hE hW h0 rfl q_k11 7 (by decide) rfl (hE.l wl_44) dX11_plan_42 (fun kb7 ekb7 hkb7a hkb7b => ?_)
      obtain rfl : kb2 = kb7 := ((kf5.R _ h0 (by decide)).trans ekb2).symm.trans ekb7
      refine lv_iload_n hx hb dX11_plan_45 rfl (lv_at hl 1 rfl) ?_
      refine q_goi hW (q_runV (As := [.int i1]) (rest := []) hE hW (c_X6_washerFor l G ks4 kb2 hkb2 i1) kw_X11_247 (q_recv hE hW hkb2 rfl q_k6) rfl hl.1 rfl (Nat.le_of_ble_eq_true rfl) dX11_plan_46 ⟨by decide, by decide⟩ ⟨by decide, by decide⟩) (by decide) (fun kx11 ks9 H locs kp8 kf10 hW => ?_)
      exact q_reti hE hr hlocks hW ((q_all kx11)) dX11_plan_49
    · have kv12 : q_V (-1) (-1) i1 := q_eq1 (q_all i1) (q_c (k := (-1)) (x := (-1)) (by decide)) kc6 (by decide) (by decide)
      refine lv_aload_n hx hb dX11_plan_31 rfl (lv_at hl 0 rfl) ?_
      refine q_getr hE hW h0 rfl q_k11 7 (by decide) rfl (hE.l wl_44) dX11_plan_32 (fun kb13 ekb13 hkb13a hkb13b => ?_)
      obtain rfl : kb2 = kb13 := ((kf5.R _ h0 (by decide)).trans ekb2).symm.trans ekb13
      refine q_geti hE hW hkb2 rfl q_k6 6 (by decide) rfl (hE.n 36 rfl) dX11_plan_35 (fun kx14 ekx14 vkx14 => ?_)
      refine lv_goto (tgt := 49) hx hb dX11_plan_38 (by decide) ?_
      exact q_reti hE hr hlocks hW ((q_all kx14)) dX11_plan_49
  refine lv_iload_n hx hb dX11_plan_0 rfl (lv_at hl 1 rfl) ?_
  refine lv_iconst (v := (-1)) hx hb dX11_plan_1 (by decide) ?_
  refine lv_icmp_eq (tgt := 19) hx hb dX11_plan_2 (by decide) (fun kc15 => ?_) (fun kc15 => ?_)
  · have kv16 : q_V (-1) (-1) i1 := q_eq1 (q_all i1) (q_c (k := (-1)) (x := (-1)) (by decide)) kc15 (by decide) (by decide)
    exact jn19a _ _ _ hW ls (lv_sub hl [0, 1] rfl)
  · refine lv_aload_n hx hb dX11_plan_5 rfl (lv_at hl 0 rfl) ?_
    refine q_getr hE hW h0 rfl q_k11 5 (by decide) rfl (hE.l wl_35) dX11_plan_6 (fun kb17 ekb17 hkb17a hkb17b => ?_)
    have hkb17 : q_T G kb17 = 7 := q_tag hkb17a hkb17b
    refine lv_iload_n hx hb dX11_plan_9 rfl (lv_at hl 1 rfl) ?_
    refine q_goq hW (q_runV (As := [.int i1]) (rest := []) hE hW (c_X2_cloudAt l G σ kb17 hkb17 i1) kw_X11_137 (q_recv hE hW hkb17 rfl q_k2) rfl hl.1 rfl (Nat.le_of_ble_eq_true rfl) dX11_plan_10 ⟨by decide, by decide⟩ ⟨by decide, by decide⟩) (by decide) (fun ks19 H locs kp18 kf20 hW => ?_) (fun kb21 ks19 H locs kp18 kf20 hW => ?_)
    · refine lv_ifnonnullN hx hb dX11_plan_13 ?_
      refine lv_bipush (v := (-2)) hx hb dX11_plan_16 (by decide) ?_
      exact q_reti hE hr hlocks hW (((q_c (k := (-2)) (x := (-2)) (by decide)).w (by decide) (by decide))) dX11_plan_18
    · have hkb21 : q_T G kb21 = 5 := kp18 kb21 rfl
      refine lv_ifnonnull hx hb dX11_plan_13 (tgt := 19) (by decide) ?_
      exact jn19a _ _ _ hW ls (lv_sub hl [0, 1] rfl)
set_option maxHeartbeats 4000000 in
set_option maxRecDepth 100000 in
theorem c_X7_sortOf (l : Launch) (G : q_G) (σ : q_S) (i1 : Int32)  : Met l yX7_sortOf (Cond.code yX7_sortOf cX7_sortOf 1 (some .int) :: wsL_law) (q_Rm 1) (q_Pre G σ [.int i1]) (q_Qi G [] σ (fun r σ1 => q_V 1 3 r)) 0 0 (q_N G) := by
  refine q_ofW (ts := []) (by decide) (Nat.le_of_ble_eq_true rfl) ?_
  intro p e s m args below meth c hE hr hlocks hW ls hl
  have hE : q_E G p s m args c cX7_sortOf 1 RX7 := hE
  have hx := hE.1.1
  have hb := hE.1.2.1
  have hl : lv_has ls 1 [(0, .int i1)] := hl
  have jn14a : ∀ (ls : Array Slot) (hl : lv_has ls 1 [(0, .int i1)]), W p l e (q_Rm 1) s m args below meth c s.heap [] 0 0 (MQ below (q_Qi G [] σ (fun r σ1 => q_V 1 3 r)) args s 0 0 (q_N G)) (F0 m 14 ls []) := by
    intro ls hl
    refine lv_iload_n hx hb dX7_sortOf_14 rfl (lv_at hl 0 rfl) ?_
    refine lv_bipush (v := 48) hx hb dX7_sortOf_15 (by decide) ?_
    refine lv_icmp_lt (tgt := 30) hx hb dX7_sortOf_17 (by decide) (fun kc1 => ?_) (fun kc1 => ?_)
    · have kv2 : q_V (-2147483648) 47 i1 := (q_lt1 (q_all i1) (q_c (k := 48) (x := 48) (by decide)) kc1).w (by decide) (by decide)
      refine lv_iconst (v := 3) hx hb dX7_sortOf_30 (by decide) ?_
      exact q_reti hE hr hlocks hW (((q_c (k := 3) (x := 3) (by decide)).w (by decide) (by decide))) dX7_sortOf_31
    · have kv3 : q_V 48 2147483647 i1 := (q_le2 (q_c (k := 48) (x := 48) (by decide)) (q_all i1) (Int32.not_lt.mp kc1)).w (by decide) (by decide)
      refine lv_iload_n hx hb dX7_sortOf_20 rfl (lv_at hl 0 rfl) ?_
      refine lv_bipush (v := 57) hx hb dX7_sortOf_21 (by decide) ?_
      refine lv_icmp_gt (tgt := 30) hx hb dX7_sortOf_23 (by decide) (fun kc4 => ?_) (fun kc4 => ?_)
      · have kv5 : q_V 58 2147483647 i1 := (q_lt2 (q_c (k := 57) (x := 57) (by decide)) kv3 kc4).w (by decide) (by decide)
        refine lv_iconst (v := 3) hx hb dX7_sortOf_30 (by decide) ?_
        exact q_reti hE hr hlocks hW (((q_c (k := 3) (x := 3) (by decide)).w (by decide) (by decide))) dX7_sortOf_31
      · have kv6 : q_V 48 57 i1 := (q_le1 kv3 (q_c (k := 57) (x := 57) (by decide)) (Int32.not_lt.mp kc4)).w (by decide) (by decide)
        refine lv_iconst (v := 2) hx hb dX7_sortOf_26 (by decide) ?_
        refine lv_goto (tgt := 31) hx hb dX7_sortOf_27 (by decide) ?_
        exact q_reti hE hr hlocks hW (((q_c (k := 2) (x := 2) (by decide)).w (by decide) (by decide))) dX7_sortOf_31
  refine lv_iload_n hx hb dX7_sortOf_0 rfl (lv_at hl 0 rfl) ?_
  refine lv_bipush (v := 97) hx hb dX7_sortOf_1 (by decide) ?_
  refine lv_icmp_lt (tgt := 14) hx hb dX7_sortOf_3 (by decide) (fun kc7 => ?_) (fun kc7 => ?_)
  · have kv8 : q_V (-2147483648) 96 i1 := (q_lt1 (q_all i1) (q_c (k := 97) (x := 97) (by decide)) kc7).w (by decide) (by decide)
    exact jn14a ls (lv_sub hl [0] rfl)
  · have kv9 : q_V 97 2147483647 i1 := (q_le2 (q_c (k := 97) (x := 97) (by decide)) (q_all i1) (Int32.not_lt.mp kc7)).w (by decide) (by decide)
    refine lv_iload_n hx hb dX7_sortOf_6 rfl (lv_at hl 0 rfl) ?_
    refine lv_bipush (v := 122) hx hb dX7_sortOf_7 (by decide) ?_
    refine lv_icmp_gt (tgt := 14) hx hb dX7_sortOf_9 (by decide) (fun kc10 => ?_) (fun kc10 => ?_)
    · have kv11 : q_V 123 2147483647 i1 := (q_lt2 (q_c (k := 122) (x := 122) (by decide)) kv9 kc10).w (by decide) (by decide)
      exact jn14a ls (lv_sub hl [0] rfl)
    · have kv12 : q_V 97 122 i1 := (q_le1 kv9 (q_c (k := 122) (x := 122) (by decide)) (Int32.not_lt.mp kc10)).w (by decide) (by decide)
      refine lv_iconst (v := 1) hx hb dX7_sortOf_12 (by decide) ?_
      exact q_reti hE hr hlocks hW (((q_c (k := 1) (x := 1) (by decide)).w (by decide) (by decide))) dX7_sortOf_13
set_option maxHeartbeats 4000000 in
set_option maxRecDepth 100000 in
theorem c_X7_step (l : Launch) (G : q_G) (σ : q_S) (a0 : Nat) (h0 : q_T G a0 = 15)  : Met l yX7_step (Cond.code yX7_step cX7_step 2 none :: wsL_law) (q_Rm 2) (q_Pre G σ [.ref a0]) (q_Qv G [15] σ (fun σ1 => q_ff σ σ1 a0 [3, 4])) 0 0 (q_N G) := by
  refine q_ofW (ts := [15]) (by decide) (Nat.le_of_ble_eq_true rfl) ?_
  intro p e s m args below meth c hE hr hlocks hW ls hl
  have hE : q_E G p s m args c cX7_step 2 RX7 := hE
  have hx := hE.1.1
  have hb := hE.1.2.1
  have hl : lv_has ls 2 [(0, .ref a0)] := hl
  have lp99a : ∀ (n99a : Nat) (ks2 : q_S) (H : Heap) (locs : List Loc) (kx1 : Int32) (vkx1 : q_V 1 3 kx1) (kb3 : Nat) (hkb3 : q_T G kb3 = 13) (ke4 : q_R ks2 a0 0 = kb3) (kx5 : Int32) (vkx5 : q_V (-2147483647) 2147483647 kx5) (ke6 : q_I ks2 kb3 1 = kx5) (kx7 : Int32) (vkx7 : q_V (-2147483647) 2147483647 kx7) (ke8 : q_I ks2 a0 4 = kx7) (hW : q_Wd G [15] σ s.heap ks2 H locs) (hff99a : q_ff σ ks2 a0 [3, 4]) (ls : Array Slot) (hl : lv_has ls 2 [(0, .ref a0), (1, .int kx1)]), (kx5.toInt - kx7.toInt).toNat < n99a → W p l e (q_Rm 2) s m args below meth c H locs 0 0 (MQ below (q_Qv G [15] σ (fun σ1 => q_ff σ σ1 a0 [3, 4])) args s 0 0 (q_N G)) (F0 m 99 ls []) := by
    intro n99a
    induction n99a with
    | zero => intro _ _ _ _ _ _ _ _ _ _ _ _ _ _ _ _ _ _; exact fun h => absurd h (Nat.not_lt_zero _)
    | succ n99a ih99a =>
      intro ks2 H locs kx1 vkx1 kb3 hkb3 ke4 kx5 vkx5 ke6 kx7 vkx7 ke8 hW hff99a ls hl hm99a
      refine lv_aload_n hx hb dX7_step_99 rfl (lv_at hl 0 rfl) ?_
      refine q_geti hE hW h0 rfl q_k7 4 (by decide) rfl (hE.l wl_191) dX7_step_100 (fun kx9 ekx9 vkx9 => ?_)
      obtain rfl : kx7 = kx9 := ke8.symm.trans ekx9
      refine lv_aload_n hx hb dX7_step_103 rfl (lv_at hl 0 rfl) ?_
      refine q_getr hE hW h0 rfl q_k7 0 (by decide) rfl (hE.l wl_105) dX7_step_104 (fun kb10 ekb10 hkb10a hkb10b => ?_)
      obtain rfl : kb3 = kb10 := ke4.symm.trans ekb10
      refine q_geti hE hW hkb3 rfl q_k8 1 (by decide) rfl (hE.n 1 rfl) dX7_step_107 (fun kx11 ekx11 vkx11 => ?_)
      obtain rfl : kx5 = kx11 := ke6.symm.trans ekx11
      refine lv_icmp_ge (tgt := 149) hx hb dX7_step_110 (by decide) (fun kc12 => ?_) (fun kc12 => ?_)
      · exact q_retv hE hr hlocks hW (hff99a) dX7_step_149
      · have kv13 : q_V (-2147483647) 2147483646 kx7 := (q_lt1 vkx7 vkx5 (Int32.not_le.mp kc12)).w (by decide) (by decide)
        have kv14 : q_V (-2147483646) 2147483647 kx5 := (q_lt2 vkx7 vkx5 (Int32.not_le.mp kc12)).w (by decide) (by decide)
        refine lv_iload_n hx hb dX7_step_113 rfl (lv_at hl 1 rfl) ?_
        refine lv_iconst (v := 3) hx hb dX7_step_114 (by decide) ?_
        refine lv_icmp_eq (tgt := 149) hx hb dX7_step_115 (by decide) (fun kc15 => ?_) (fun kc15 => ?_)
        · have kv16 : q_V 3 3 kx1 := q_eq1 vkx1 (q_c (k := 3) (x := 3) (by decide)) kc15 (by decide) (by decide)
          exact q_retv hE hr hlocks hW (hff99a) dX7_step_149
        · have kv17 : q_V 1 2 kx1 := q_ne2 vkx1 (q_c (k := 3) (x := 3) (by decide)) kc15 (by decide)
          refine lv_aload_n hx hb dX7_step_118 rfl (lv_at hl 0 rfl) ?_
          refine q_getr hE hW h0 rfl q_k7 0 (by decide) rfl (hE.l wl_105) dX7_step_119 (fun kb18 ekb18 hkb18a hkb18b => ?_)
          obtain rfl : kb3 = kb18 := ke4.symm.trans ekb18
          refine lv_aload_n hx hb dX7_step_122 rfl (lv_at hl 0 rfl) ?_
          refine q_geti hE hW h0 rfl q_k7 4 (by decide) rfl (hE.l wl_191) dX7_step_123 (fun kx19 ekx19 vkx19 => ?_)
          obtain rfl : kx7 = kx19 := ke8.symm.trans ekx19
          refine q_goi hW (q_runV (As := [.int kx7]) (rest := []) hE hW (c_X8_at l G ks2 kb3 hkb3 kx7) kw_X7_51 (q_recv hE hW hkb3 rfl q_k8) rfl hl.1 rfl (Nat.le_of_ble_eq_true rfl) dX7_step_126 ⟨by decide, by decide⟩ ⟨by decide, by decide⟩) (by decide) (fun kx23 ks21 H locs kp20 kf22 hW => ?_)
          refine q_goi hW (q_runS (As := [.int kx23]) (rest := []) hE hW (c_X7_sortOf l G ks21 kx23) kw_X7_55 rfl hl.1 rfl (Nat.le_of_ble_eq_true rfl) dX7_step_129 ⟨by decide, by decide⟩ ⟨by decide, by decide⟩) (by decide) (fun kx27 ks25 H locs kp24 kf26 hW => ?_)
          refine lv_iload_n hx hb dX7_step_132 rfl (lv_at hl 1 rfl) ?_
          refine lv_icmp_ne (tgt := 149) hx hb dX7_step_133 (by decide) (fun kc28 => ?_) (fun kc28 => ?_)
          · exact q_retv hE hr hlocks hW (((hff99a.fr kf22 h0 (by decide)).fr kf26 h0 (by decide))) dX7_step_149
          · have kv29 : q_V 1 2 kx27 := q_eq1 kp24 kv17 kc28 (by decide) (by decide)
            refine lv_aload_n hx hb dX7_step_136 rfl (lv_at hl 0 rfl) ?_
            refine lv_dup hx hb dX7_step_137 rfl ?_
            refine q_geti hE hW h0 rfl q_k7 4 (by decide) rfl (hE.l wl_191) dX7_step_138 (fun kx30 ekx30 vkx30 => ?_)
            obtain rfl : kx7 = kx30 := (((kf26.I _ h0 (by decide)).trans (kf22.I _ h0 (by decide))).trans ke8).symm.trans ekx30
            refine lv_iconst (v := 1) hx hb dX7_step_141 (by decide) ?_
            refine lv_iadd hx hb dX7_step_142 ?_
            refine lv_topi (fun kx31 ekx31 => ?_)
            have vkx31 : q_V (-2147483646) 2147483647 kx31 := by rw [ekx31]; exact (q_add kv13 (q_c (k := 1) (x := 1) (by decide)) (by decide) (by decide)).w (by decide) (by decide)
            have ikx31 : kx31.toInt = kx7.toInt + 1 := q_incT ekx31 kv13 (by decide) (by decide) (by decide)
            refine q_puti hE hW h0 rfl q_k7 tyX7 tyX7_ok 4 (by decide) rfl (hE.l wl_191) rfl rfl rfl (vkx31.w (by decide) (by decide)) (by decide) dX7_step_143 (fun H locs ks32 kp33 hW => ?_)
            refine lv_goto (tgt := 99) hx hb dX7_step_146 (by decide) ?_
            exact ih99a _ _ _ kx1 (kv17.w (by decide) (by decide)) kb3 hkb3 ((((kp33.2.2.1 _ _).trans (kf26.R _ h0 (by decide))).trans (kf22.R _ h0 (by decide))).trans ke4) kx5 (kv14.w (by decide) (by decide)) ((((kp33.2.1 _ _ (Or.inl (q_neT hkb3 h0 (by decide)))).trans (kf26.I _ hkb3 (by decide))).trans (kf22.I _ hkb3 (by decide))).trans ke6) kx31 (vkx31.w (by decide) (by decide)) kp33.1 hW (((hff99a.fr kf22 h0 (by decide)).fr kf26 h0 (by decide)).wI kp33 (by decide)) ls (lv_sub hl [0, 1] rfl) (Nat.lt_of_lt_of_le (q_hm (ikx31) ((Int32.not_le.mp kc12))) (Nat.le_of_lt_succ hm99a))
  have lp8a : ∀ (n8a : Nat) (ks34 : q_S) (H : Heap) (locs : List Loc) (kb35 : Nat) (hkb35 : q_T G kb35 = 13) (ke36 : q_R ks34 a0 0 = kb35) (kx37 : Int32) (ke38 : q_I ks34 kb35 1 = kx37) (kx39 : Int32) (ke40 : q_I ks34 a0 3 = kx39) (hW : q_Wd G [15] σ s.heap ks34 H locs) (hff8a : q_ff σ ks34 a0 [3, 4]) (ls : Array Slot) (hl : lv_has ls 2 [(0, .ref a0)]), (kx37.toInt - kx39.toInt).toNat < n8a → W p l e (q_Rm 2) s m args below meth c H locs 0 0 (MQ below (q_Qv G [15] σ (fun σ1 => q_ff σ σ1 a0 [3, 4])) args s 0 0 (q_N G)) (F0 m 8 ls []) := by
    intro n8a
    induction n8a with
    | zero => intro _ _ _ _ _ _ _ _ _ _ _ _ _ _; exact fun h => absurd h (Nat.not_lt_zero _)
    | succ n8a ih8a =>
      intro ks34 H locs kb35 hkb35 ke36 kx37 ke38 kx39 ke40 hW hff8a ls hl hm8a
      refine lv_aload_n hx hb dX7_step_8 rfl (lv_at hl 0 rfl) ?_
      refine q_geti hE hW h0 rfl q_k7 3 (by decide) rfl (hE.l wl_193) dX7_step_9 (fun kx41 ekx41 vkx41 => ?_)
      obtain rfl : kx39 = kx41 := ke40.symm.trans ekx41
      refine lv_aload_n hx hb dX7_step_12 rfl (lv_at hl 0 rfl) ?_
      refine q_getr hE hW h0 rfl q_k7 0 (by decide) rfl (hE.l wl_105) dX7_step_13 (fun kb42 ekb42 hkb42a hkb42b => ?_)
      obtain rfl : kb35 = kb42 := ke36.symm.trans ekb42
      refine q_geti hE hW hkb35 rfl q_k8 1 (by decide) rfl (hE.n 1 rfl) dX7_step_16 (fun kx43 ekx43 vkx43 => ?_)
      obtain rfl : kx37 = kx43 := ke38.symm.trans ekx43
      refine lv_icmp_ge (tgt := 51) hx hb dX7_step_19 (by decide) (fun kc44 => ?_) (fun kc44 => ?_)
      · refine lv_aload_n hx hb dX7_step_51 rfl (lv_at hl 0 rfl) ?_
        refine lv_aload_n hx hb dX7_step_52 rfl (lv_at hl 0 rfl) ?_
        refine q_geti hE hW h0 rfl q_k7 3 (by decide) rfl (hE.l wl_193) dX7_step_53 (fun kx45 ekx45 vkx45 => ?_)
        obtain rfl : kx39 = kx45 := ke40.symm.trans ekx45
        refine q_puti hE hW h0 rfl q_k7 tyX7 tyX7_ok 4 (by decide) rfl (hE.l wl_191) rfl rfl rfl (q_all kx39) (by decide) dX7_step_56 (fun H locs ks46 kp47 hW => ?_)
        refine lv_aload_n hx hb dX7_step_59 rfl (lv_at hl 0 rfl) ?_
        refine q_geti hE hW h0 rfl q_k7 3 (by decide) rfl (hE.l wl_193) dX7_step_60 (fun kx48 ekx48 vkx48 => ?_)
        obtain rfl : kx39 = kx48 := ((kp47.2.1 _ _ (Or.inr (by decide))).trans ke40).symm.trans ekx48
        refine lv_aload_n hx hb dX7_step_63 rfl (lv_at hl 0 rfl) ?_
        refine q_getr hE hW h0 rfl q_k7 0 (by decide) rfl (hE.l wl_105) dX7_step_64 (fun kb49 ekb49 hkb49a hkb49b => ?_)
        obtain rfl : kb35 = kb49 := ((kp47.2.2.1 _ _).trans ke36).symm.trans ekb49
        refine q_geti hE hW hkb35 rfl q_k8 1 (by decide) rfl (hE.n 1 rfl) dX7_step_67 (fun kx50 ekx50 vkx50 => ?_)
        obtain rfl : kx37 = kx50 := ((kp47.2.1 _ _ (Or.inl (q_neT hkb35 h0 (by decide)))).trans ke38).symm.trans ekx50
        refine lv_icmp_lt (tgt := 74) hx hb dX7_step_70 (by decide) (fun kc51 => ?_) (fun kc51 => ?_)
        · have kv52 : q_V (-2147483648) 2147483646 kx39 := (q_lt1 (q_all kx39) (q_all kx37) kc51).w (by decide) (by decide)
          have kv53 : q_V (-2147483647) 2147483647 kx37 := (q_lt2 (q_all kx39) (q_all kx37) kc51).w (by decide) (by decide)
          refine lv_aload_n hx hb dX7_step_74 rfl (lv_at hl 0 rfl) ?_
          refine q_getr hE hW h0 rfl q_k7 0 (by decide) rfl (hE.l wl_105) dX7_step_75 (fun kb54 ekb54 hkb54a hkb54b => ?_)
          obtain rfl : kb35 = kb54 := ((kp47.2.2.1 _ _).trans ke36).symm.trans ekb54
          refine lv_aload_n hx hb dX7_step_78 rfl (lv_at hl 0 rfl) ?_
          refine q_geti hE hW h0 rfl q_k7 3 (by decide) rfl (hE.l wl_193) dX7_step_79 (fun kx55 ekx55 vkx55 => ?_)
          obtain rfl : kx39 = kx55 := ((kp47.2.1 _ _ (Or.inr (by decide))).trans ke40).symm.trans ekx55
          refine q_goi hW (q_runV (As := [.int kx39]) (rest := []) hE hW (c_X8_at l G ks46 kb35 hkb35 kx39) kw_X7_51 (q_recv hE hW hkb35 rfl q_k8) rfl hl.1 rfl (Nat.le_of_ble_eq_true rfl) dX7_step_82 ⟨by decide, by decide⟩ ⟨by decide, by decide⟩) (by decide) (fun kx59 ks57 H locs kp56 kf58 hW => ?_)
          refine q_goi hW (q_runS (As := [.int kx59]) (rest := []) hE hW (c_X7_sortOf l G ks57 kx59) kw_X7_55 rfl hl.1 rfl (Nat.le_of_ble_eq_true rfl) dX7_step_85 ⟨by decide, by decide⟩ ⟨by decide, by decide⟩) (by decide) (fun kx63 ks61 H locs kp60 kf62 hW => ?_)
          refine lv_istore_n (lv' := [(1, .int kx63), (0, .ref a0)]) hx hb dX7_step_88 rfl hl (by decide) rfl (fun ls hl => ?_)
          refine lv_aload_n hx hb dX7_step_89 rfl (lv_at hl 1 rfl) ?_
          refine lv_dup hx hb dX7_step_90 rfl ?_
          refine q_geti hE hW h0 rfl q_k7 4 (by decide) rfl (hE.l wl_191) dX7_step_91 (fun kx64 ekx64 vkx64 => ?_)
          obtain rfl : kx39 = kx64 := (((kf62.I _ h0 (by decide)).trans (kf58.I _ h0 (by decide))).trans kp47.1).symm.trans ekx64
          refine lv_iconst (v := 1) hx hb dX7_step_94 (by decide) ?_
          refine lv_iadd hx hb dX7_step_95 ?_
          refine lv_topi (fun kx65 ekx65 => ?_)
          have vkx65 : q_V (-2147483647) 2147483647 kx65 := by rw [ekx65]; exact (q_add kv52 (q_c (k := 1) (x := 1) (by decide)) (by decide) (by decide)).w (by decide) (by decide)
          have ikx65 : kx65.toInt = kx39.toInt + 1 := q_incT ekx65 kv52 (by decide) (by decide) (by decide)
          refine q_puti hE hW h0 rfl q_k7 tyX7 tyX7_ok 4 (by decide) rfl (hE.l wl_191) rfl rfl rfl (vkx65.w (by decide) (by decide)) (by decide) dX7_step_96 (fun H locs ks66 kp67 hW => ?_)
          exact lp99a _ _ _ _ kx63 kp60 kb35 hkb35 (((((kp67.2.2.1 _ _).trans (kf62.R _ h0 (by decide))).trans (kf58.R _ h0 (by decide))).trans (kp47.2.2.1 _ _)).trans ke36) kx37 kv53 (((((kp67.2.1 _ _ (Or.inl (q_neT hkb35 h0 (by decide)))).trans (kf62.I _ hkb35 (by decide))).trans (kf58.I _ hkb35 (by decide))).trans (kp47.2.1 _ _ (Or.inl (q_neT hkb35 h0 (by decide))))).trans ke38) kx65 vkx65 kp67.1 hW ((((hff8a.wI kp47 (by decide)).fr kf58 h0 (by decide)).fr kf62 h0 (by decide)).wI kp67 (by decide)) ls (lv_sub hl [1, 0] rfl) (Nat.lt_succ_self _)
        · exact q_retv hE hr hlocks hW ((hff8a.wI kp47 (by decide))) dX7_step_73
      · have kv68 : q_V (-2147483648) 2147483646 kx39 := (q_lt1 (q_all kx39) (q_all kx37) (Int32.not_le.mp kc44)).w (by decide) (by decide)
        have kv69 : q_V (-2147483647) 2147483647 kx37 := (q_lt2 (q_all kx39) (q_all kx37) (Int32.not_le.mp kc44)).w (by decide) (by decide)
        refine lv_aload_n hx hb dX7_step_22 rfl (lv_at hl 0 rfl) ?_
        refine q_getr hE hW h0 rfl q_k7 0 (by decide) rfl (hE.l wl_105) dX7_step_23 (fun kb70 ekb70 hkb70a hkb70b => ?_)
        obtain rfl : kb35 = kb70 := ke36.symm.trans ekb70
        refine lv_aload_n hx hb dX7_step_26 rfl (lv_at hl 0 rfl) ?_
        refine q_geti hE hW h0 rfl q_k7 3 (by decide) rfl (hE.l wl_193) dX7_step_27 (fun kx71 ekx71 vkx71 => ?_)
        obtain rfl : kx39 = kx71 := ke40.symm.trans ekx71
        refine q_goi hW (q_runV (As := [.int kx39]) (rest := []) hE hW (c_X8_at l G ks34 kb35 hkb35 kx39) kw_X7_51 (q_recv hE hW hkb35 rfl q_k8) rfl hl.1 rfl (Nat.le_of_ble_eq_true rfl) dX7_step_30 ⟨by decide, by decide⟩ ⟨by decide, by decide⟩) (by decide) (fun kx75 ks73 H locs kp72 kf74 hW => ?_)
        refine lv_bipush (v := 32) hx hb dX7_step_33 (by decide) ?_
        refine lv_icmp_ne (tgt := 51) hx hb dX7_step_35 (by decide) (fun kc76 => ?_) (fun kc76 => ?_)
        · refine lv_aload_n hx hb dX7_step_51 rfl (lv_at hl 0 rfl) ?_
          refine lv_aload_n hx hb dX7_step_52 rfl (lv_at hl 0 rfl) ?_
          refine q_geti hE hW h0 rfl q_k7 3 (by decide) rfl (hE.l wl_193) dX7_step_53 (fun kx77 ekx77 vkx77 => ?_)
          obtain rfl : kx39 = kx77 := ((kf74.I _ h0 (by decide)).trans ke40).symm.trans ekx77
          refine q_puti hE hW h0 rfl q_k7 tyX7 tyX7_ok 4 (by decide) rfl (hE.l wl_191) rfl rfl rfl (kv68.w (by decide) (by decide)) (by decide) dX7_step_56 (fun H locs ks78 kp79 hW => ?_)
          refine lv_aload_n hx hb dX7_step_59 rfl (lv_at hl 0 rfl) ?_
          refine q_geti hE hW h0 rfl q_k7 3 (by decide) rfl (hE.l wl_193) dX7_step_60 (fun kx80 ekx80 vkx80 => ?_)
          obtain rfl : kx39 = kx80 := (((kp79.2.1 _ _ (Or.inr (by decide))).trans (kf74.I _ h0 (by decide))).trans ke40).symm.trans ekx80
          refine lv_aload_n hx hb dX7_step_63 rfl (lv_at hl 0 rfl) ?_
          refine q_getr hE hW h0 rfl q_k7 0 (by decide) rfl (hE.l wl_105) dX7_step_64 (fun kb81 ekb81 hkb81a hkb81b => ?_)
          obtain rfl : kb35 = kb81 := (((kp79.2.2.1 _ _).trans (kf74.R _ h0 (by decide))).trans ke36).symm.trans ekb81
          refine q_geti hE hW hkb35 rfl q_k8 1 (by decide) rfl (hE.n 1 rfl) dX7_step_67 (fun kx82 ekx82 vkx82 => ?_)
          obtain rfl : kx37 = kx82 := (((kp79.2.1 _ _ (Or.inl (q_neT hkb35 h0 (by decide)))).trans (kf74.I _ hkb35 (by decide))).trans ke38).symm.trans ekx82
          refine lv_icmp_lt (tgt := 74) hx hb dX7_step_70 (by decide) (fun kc83 => ?_) (fun kc83 => ?_)
          · refine lv_aload_n hx hb dX7_step_74 rfl (lv_at hl 0 rfl) ?_
            refine q_getr hE hW h0 rfl q_k7 0 (by decide) rfl (hE.l wl_105) dX7_step_75 (fun kb84 ekb84 hkb84a hkb84b => ?_)
            obtain rfl : kb35 = kb84 := (((kp79.2.2.1 _ _).trans (kf74.R _ h0 (by decide))).trans ke36).symm.trans ekb84
            refine lv_aload_n hx hb dX7_step_78 rfl (lv_at hl 0 rfl) ?_
            refine q_geti hE hW h0 rfl q_k7 3 (by decide) rfl (hE.l wl_193) dX7_step_79 (fun kx85 ekx85 vkx85 => ?_)
            obtain rfl : kx39 = kx85 := (((kp79.2.1 _ _ (Or.inr (by decide))).trans (kf74.I _ h0 (by decide))).trans ke40).symm.trans ekx85
            refine q_goi hW (q_runV (As := [.int kx39]) (rest := []) hE hW (c_X8_at l G ks78 kb35 hkb35 kx39) kw_X7_51 (q_recv hE hW hkb35 rfl q_k8) rfl hl.1 rfl (Nat.le_of_ble_eq_true rfl) dX7_step_82 ⟨by decide, by decide⟩ ⟨by decide, by decide⟩) (by decide) (fun kx89 ks87 H locs kp86 kf88 hW => ?_)
            refine q_goi hW (q_runS (As := [.int kx89]) (rest := []) hE hW (c_X7_sortOf l G ks87 kx89) kw_X7_55 rfl hl.1 rfl (Nat.le_of_ble_eq_true rfl) dX7_step_85 ⟨by decide, by decide⟩ ⟨by decide, by decide⟩) (by decide) (fun kx93 ks91 H locs kp90 kf92 hW => ?_)
            refine lv_istore_n (lv' := [(1, .int kx93), (0, .ref a0)]) hx hb dX7_step_88 rfl hl (by decide) rfl (fun ls hl => ?_)
            refine lv_aload_n hx hb dX7_step_89 rfl (lv_at hl 1 rfl) ?_
            refine lv_dup hx hb dX7_step_90 rfl ?_
            refine q_geti hE hW h0 rfl q_k7 4 (by decide) rfl (hE.l wl_191) dX7_step_91 (fun kx94 ekx94 vkx94 => ?_)
            obtain rfl : kx39 = kx94 := (((kf92.I _ h0 (by decide)).trans (kf88.I _ h0 (by decide))).trans kp79.1).symm.trans ekx94
            refine lv_iconst (v := 1) hx hb dX7_step_94 (by decide) ?_
            refine lv_iadd hx hb dX7_step_95 ?_
            refine lv_topi (fun kx95 ekx95 => ?_)
            have vkx95 : q_V (-2147483647) 2147483647 kx95 := by rw [ekx95]; exact (q_add kv68 (q_c (k := 1) (x := 1) (by decide)) (by decide) (by decide)).w (by decide) (by decide)
            have ikx95 : kx95.toInt = kx39.toInt + 1 := q_incT ekx95 kv68 (by decide) (by decide) (by decide)
            refine q_puti hE hW h0 rfl q_k7 tyX7 tyX7_ok 4 (by decide) rfl (hE.l wl_191) rfl rfl rfl (vkx95.w (by decide) (by decide)) (by decide) dX7_step_96 (fun H locs ks96 kp97 hW => ?_)
            exact lp99a _ _ _ _ kx93 kp90 kb35 hkb35 ((((((kp97.2.2.1 _ _).trans (kf92.R _ h0 (by decide))).trans (kf88.R _ h0 (by decide))).trans (kp79.2.2.1 _ _)).trans (kf74.R _ h0 (by decide))).trans ke36) kx37 kv69 ((((((kp97.2.1 _ _ (Or.inl (q_neT hkb35 h0 (by decide)))).trans (kf92.I _ hkb35 (by decide))).trans (kf88.I _ hkb35 (by decide))).trans (kp79.2.1 _ _ (Or.inl (q_neT hkb35 h0 (by decide))))).trans (kf74.I _ hkb35 (by decide))).trans ke38) kx95 vkx95 kp97.1 hW (((((hff8a.fr kf74 h0 (by decide)).wI kp79 (by decide)).fr kf88 h0 (by decide)).fr kf92 h0 (by decide)).wI kp97 (by decide)) ls (lv_sub hl [1, 0] rfl) (Nat.lt_succ_self _)
          · have kv98 : q_V (-2147483647) 2147483646 kx37 := (q_le1 kv69 kv68 (Int32.not_lt.mp kc83)).w (by decide) (by decide)
            have kv99 : q_V (-2147483647) 2147483646 kx39 := (q_le2 kv69 kv68 (Int32.not_lt.mp kc83)).w (by decide) (by decide)
            exact q_retv hE hr hlocks hW (((hff8a.fr kf74 h0 (by decide)).wI kp79 (by decide))) dX7_step_73
        · have kv100 : q_V 32 32 kx75 := q_eq1 kp72 (q_c (k := 32) (x := 32) (by decide)) kc76 (by decide) (by decide)
          refine lv_aload_n hx hb dX7_step_38 rfl (lv_at hl 0 rfl) ?_
          refine lv_dup hx hb dX7_step_39 rfl ?_
          refine q_geti hE hW h0 rfl q_k7 3 (by decide) rfl (hE.l wl_193) dX7_step_40 (fun kx101 ekx101 vkx101 => ?_)
          obtain rfl : kx39 = kx101 := ((kf74.I _ h0 (by decide)).trans ke40).symm.trans ekx101
          refine lv_iconst (v := 1) hx hb dX7_step_43 (by decide) ?_
          refine lv_iadd hx hb dX7_step_44 ?_
          refine lv_topi (fun kx102 ekx102 => ?_)
          have vkx102 : q_V (-2147483647) 2147483647 kx102 := by rw [ekx102]; exact (q_add kv68 (q_c (k := 1) (x := 1) (by decide)) (by decide) (by decide)).w (by decide) (by decide)
          have ikx102 : kx102.toInt = kx39.toInt + 1 := q_incT ekx102 kv68 (by decide) (by decide) (by decide)
          refine q_puti hE hW h0 rfl q_k7 tyX7 tyX7_ok 3 (by decide) rfl (hE.l wl_193) rfl rfl rfl (vkx102.w (by decide) (by decide)) (by decide) dX7_step_45 (fun H locs ks103 kp104 hW => ?_)
          refine lv_goto (tgt := 8) hx hb dX7_step_48 (by decide) ?_
          exact ih8a _ _ _ kb35 hkb35 (((kp104.2.2.1 _ _).trans (kf74.R _ h0 (by decide))).trans ke36) kx37 (((kp104.2.1 _ _ (Or.inl (q_neT hkb35 h0 (by decide)))).trans (kf74.I _ hkb35 (by decide))).trans ke38) kx102 kp104.1 hW ((hff8a.fr kf74 h0 (by decide)).wI kp104 (by decide)) ls (lv_sub hl [0] rfl) (Nat.lt_of_lt_of_le (q_hm (ikx102) ((Int32.not_le.mp kc44))) (Nat.le_of_lt_succ hm8a))
  refine lv_aload_n hx hb dX7_step_0 rfl (lv_at hl 0 rfl) ?_
  refine lv_aload_n hx hb dX7_step_1 rfl (lv_at hl 0 rfl) ?_
  refine q_geti hE hW h0 rfl q_k7 4 (by decide) rfl (hE.l wl_191) dX7_step_2 (fun kx105 ekx105 vkx105 => ?_)
  refine q_puti hE hW h0 rfl q_k7 tyX7 tyX7_ok 3 (by decide) rfl (hE.l wl_193) rfl rfl rfl (q_all kx105) (by decide) dX7_step_5 (fun H locs ks106 kp107 hW => ?_)
  obtain ⟨kb108, ekb108, hkb108a, hkb108b⟩ := q_ghr hW h0 rfl 0 rfl
  have hkb108 : q_T G kb108 = 13 := q_tag hkb108a hkb108b
  obtain ⟨kx109, ekx109, vkx109⟩ := q_ghi hW hkb108 rfl 1 rfl
  exact lp8a _ _ _ _ kb108 hkb108 ekb108 kx109 ekx109 kx105 kp107.1 hW (q_ff.rf.wI kp107 (by decide)) ls (lv_sub hl [0] rfl) (Nat.lt_succ_self _)
set_option maxHeartbeats 4000000 in
set_option maxRecDepth 100000 in
theorem c_X7_number (l : Launch) (G : q_G) (σ : q_S) (a0 : Nat) (h0 : q_T G a0 = 15) (i1 : Int32) (i2 : Int32)  : Met l yX7_number (Cond.code yX7_number cX7_number 6 (some .int) :: wsL_law) (q_Rm 3) (q_Pre G σ [.ref a0, .int i1, .int i2]) (q_Qi G [15] σ (fun r σ1 => q_V (-2147483648) 2147483647 r ∧ q_ff σ σ1 a0 [3, 4])) 0 0 (q_N G) := by
  refine q_ofW (ts := [15]) (by decide) (Nat.le_of_ble_eq_true rfl) ?_
  intro p e s m args below meth c hE hr hlocks hW ls hl
  have hE : q_E G p s m args c cX7_number 6 RX7 := hE
  have hx := hE.1.1
  have hb := hE.1.2.1
  have hl : lv_has ls 6 [(0, .ref a0), (1, .int i1), (2, .int i2)] := hl
  have lp49a : ∀ (n49a : Nat) (ks3 : q_S) (H : Heap) (locs : List Loc) (kx1 : Int32) (kx2 : Int32) (hW : q_Wd G [15] σ s.heap ks3 H locs) (hff49a : q_ff σ ks3 a0 [3, 4]) (ls : Array Slot) (hl : lv_has ls 6 [(0, .ref a0), (1, .int i1), (2, .int i2), (4, .int kx1), (5, .int kx2)]), (2147483647 - kx2.toInt).toNat < n49a → W p l e (q_Rm 3) s m args below meth c H locs 0 0 (MQ below (q_Qi G [15] σ (fun r σ1 => q_V (-2147483648) 2147483647 r ∧ q_ff σ σ1 a0 [3, 4])) args s 0 0 (q_N G)) (F0 m 49 ls []) := by
    intro n49a
    induction n49a with
    | zero => intro _ _ _ _ _ _ _ _ _; exact fun h => absurd h (Nat.not_lt_zero _)
    | succ n49a ih49a =>
      intro ks3 H locs kx1 kx2 hW hff49a ls hl hm49a
      refine lv_iload hx hb dX7_number_49 (lv_at hl 4 rfl) ?_
      refine lv_aload_n hx hb dX7_number_51 rfl (lv_at hl 0 rfl) ?_
      refine q_geti hE hW h0 rfl q_k7 4 (by decide) rfl (hE.l wl_191) dX7_number_52 (fun kx4 ekx4 vkx4 => ?_)
      refine lv_icmp_ge (tgt := 84) hx hb dX7_number_55 (by decide) (fun kc5 => ?_) (fun kc5 => ?_)
      · refine lv_iload hx hb dX7_number_84 (lv_at hl 3 rfl) ?_
        refine lv_iload_n hx hb dX7_number_86 rfl (lv_at hl 1 rfl) ?_
        refine lv_icmp_lt (tgt := 96) hx hb dX7_number_87 (by decide) (fun kc6 => ?_) (fun kc6 => ?_)
        · have kv7 : q_V (-2147483648) 2147483646 kx1 := (q_lt1 (q_all kx1) (q_all i1) kc6).w (by decide) (by decide)
          have kv8 : q_V (-2147483647) 2147483647 i1 := (q_lt2 (q_all kx1) (q_all i1) kc6).w (by decide) (by decide)
          refine lv_iconst (v := (-1)) hx hb dX7_number_96 (by decide) ?_
          exact q_reti hE hr hlocks hW (⟨((q_c (k := (-1)) (x := (-1)) (by decide)).w (by decide) (by decide)), hff49a⟩) dX7_number_97
        · refine lv_iload hx hb dX7_number_90 (lv_at hl 3 rfl) ?_
          refine lv_iload_n hx hb dX7_number_92 rfl (lv_at hl 2 rfl) ?_
          refine lv_icmp_le (tgt := 98) hx hb dX7_number_93 (by decide) (fun kc9 => ?_) (fun kc9 => ?_)
          · refine lv_aload_n hx hb dX7_number_98 rfl (lv_at hl 0 rfl) ?_
            refine q_gov hW (q_runV (As := []) (rest := []) hE hW (c_X7_step l G ks3 a0 h0) kw_X7_33 (q_recv hE hW h0 rfl q_k7) rfl hl.1 rfl (Nat.le_of_ble_eq_true rfl) dX7_number_99 ⟨by decide, by decide⟩ ⟨by decide, by decide⟩) (by decide) (fun ks11 H locs kp10 kf12 hW => ?_)
            refine lv_iload hx hb dX7_number_102 (lv_at hl 3 rfl) ?_
            exact q_reti hE hr hlocks hW (⟨(q_all kx1), (hff49a.tr kp10 (by decide))⟩) dX7_number_104
          · have kv13 : q_V (-2147483648) 2147483646 i2 := (q_lt1 (q_all i2) (q_all kx1) (Int32.not_le.mp kc9)).w (by decide) (by decide)
            have kv14 : q_V (-2147483647) 2147483647 kx1 := (q_lt2 (q_all i2) (q_all kx1) (Int32.not_le.mp kc9)).w (by decide) (by decide)
            refine lv_iconst (v := (-1)) hx hb dX7_number_96 (by decide) ?_
            exact q_reti hE hr hlocks hW (⟨((q_c (k := (-1)) (x := (-1)) (by decide)).w (by decide) (by decide)), hff49a⟩) dX7_number_97
      · have kv15 : q_V (-2147483648) 2147483646 kx2 := (q_lt1 (q_all kx2) (q_all kx4) (Int32.not_le.mp kc5)).w (by decide) (by decide)
        have kv16 : q_V (-2147483647) 2147483647 kx4 := (q_lt2 (q_all kx2) (q_all kx4) (Int32.not_le.mp kc5)).w (by decide) (by decide)
        refine lv_bipush (v := 10) hx hb dX7_number_58 (by decide) ?_
        refine lv_iload hx hb dX7_number_60 (lv_at hl 3 rfl) ?_
        refine lv_imul hx hb dX7_number_62 ?_
        refine lv_topi (fun kx17 ekx17 => ?_)
        refine lv_aload_n hx hb dX7_number_63 rfl (lv_at hl 0 rfl) ?_
        refine q_getr hE hW h0 rfl q_k7 0 (by decide) rfl (hE.l wl_105) dX7_number_64 (fun kb18 ekb18 hkb18a hkb18b => ?_)
        have hkb18 : q_T G kb18 = 13 := q_tag hkb18a hkb18b
        refine lv_iload hx hb dX7_number_67 (lv_at hl 4 rfl) ?_
        refine q_goi hW (q_runV (As := [.int kx2]) (rest := [.int kx17]) hE hW (c_X8_at l G ks3 kb18 hkb18 kx2) kw_X7_51 (q_recv hE hW hkb18 rfl q_k8) rfl hl.1 rfl (Nat.le_of_ble_eq_true rfl) dX7_number_69 ⟨by decide, by decide⟩ ⟨by decide, by decide⟩) (by decide) (fun kx22 ks20 H locs kp19 kf21 hW => ?_)
        refine lv_iadd hx hb dX7_number_72 ?_
        refine lv_topi (fun kx23 ekx23 => ?_)
        refine lv_bipush (v := 48) hx hb dX7_number_73 (by decide) ?_
        refine lv_isub hx hb dX7_number_75 ?_
        refine lv_topi (fun kx24 ekx24 => ?_)
        refine lv_istore (lv' := [(4, .int kx24), (0, .ref a0), (1, .int i1), (2, .int i2), (5, .int kx2)]) hx hb dX7_number_76 hl (by decide) rfl (fun ls hl => ?_)
        obtain ⟨kx25, ekx25⟩ : ∃ y : Int32, y = kx2 + 1 := ⟨_, rfl⟩
        have vkx25 : q_V (-2147483647) 2147483647 kx25 := by rw [ekx25]; exact (q_add kv15 (q_c (k := 1) (x := 1) (by decide)) (by decide) (by decide)).w (by decide) (by decide)
        have ikx25 : kx25.toInt = kx2.toInt + 1 := q_incT ekx25 kv15 (by decide) (by decide) (by decide)
        refine lv_iinc (v := kx25) (lv' := [(5, .int kx25), (4, .int kx24), (0, .ref a0), (1, .int i1), (2, .int i2)]) hx hb dX7_number_78 hl (k := 4) rfl (by rw [ekx25]; rfl) (by decide) rfl (fun ls hl => ?_)
        refine lv_goto (tgt := 49) hx hb dX7_number_81 (by decide) ?_
        exact ih49a _ _ _ kx24 kx25 hW (hff49a.fr kf21 h0 (by decide)) ls (lv_sub hl [2, 3, 4, 1, 0] rfl) (Nat.lt_of_lt_of_le (q_up (ikx25) (show q_V (-2147483647) 2147483647 kx25 from vkx25).2) (Nat.le_of_lt_succ hm49a))
  refine lv_aload_n hx hb dX7_number_0 rfl (lv_at hl 0 rfl) ?_
  refine q_geti hE hW h0 rfl q_k7 4 (by decide) rfl (hE.l wl_191) dX7_number_1 (fun kx26 ekx26 vkx26 => ?_)
  refine lv_aload_n hx hb dX7_number_4 rfl (lv_at hl 0 rfl) ?_
  refine q_geti hE hW h0 rfl q_k7 3 (by decide) rfl (hE.l wl_193) dX7_number_5 (fun kx27 ekx27 vkx27 => ?_)
  refine lv_isub hx hb dX7_number_8 ?_
  refine lv_topi (fun kx28 ekx28 => ?_)
  refine lv_istore_n (lv' := [(3, .int kx28), (0, .ref a0), (1, .int i1), (2, .int i2)]) hx hb dX7_number_9 rfl hl (by decide) rfl (fun ls hl => ?_)
  refine lv_iload_n hx hb dX7_number_10 rfl (lv_at hl 0 rfl) ?_
  refine lv_iconst (v := 1) hx hb dX7_number_11 (by decide) ?_
  refine lv_icmp_lt (tgt := 38) hx hb dX7_number_12 (by decide) (fun kc29 => ?_) (fun kc29 => ?_)
  · have kv30 : q_V (-2147483648) 0 kx28 := (q_lt1 (q_all kx28) (q_c (k := 1) (x := 1) (by decide)) kc29).w (by decide) (by decide)
    refine lv_iconst (v := (-1)) hx hb dX7_number_38 (by decide) ?_
    exact q_reti hE hr hlocks hW (⟨((q_c (k := (-1)) (x := (-1)) (by decide)).w (by decide) (by decide)), q_ff.rf⟩) dX7_number_39
  · have kv31 : q_V 1 2147483647 kx28 := (q_le2 (q_c (k := 1) (x := 1) (by decide)) (q_all kx28) (Int32.not_lt.mp kc29)).w (by decide) (by decide)
    refine lv_iload_n hx hb dX7_number_15 rfl (lv_at hl 0 rfl) ?_
    refine lv_iconst (v := 2) hx hb dX7_number_16 (by decide) ?_
    refine lv_icmp_gt (tgt := 38) hx hb dX7_number_17 (by decide) (fun kc32 => ?_) (fun kc32 => ?_)
    · have kv33 : q_V 3 2147483647 kx28 := (q_lt2 (q_c (k := 2) (x := 2) (by decide)) kv31 kc32).w (by decide) (by decide)
      refine lv_iconst (v := (-1)) hx hb dX7_number_38 (by decide) ?_
      exact q_reti hE hr hlocks hW (⟨((q_c (k := (-1)) (x := (-1)) (by decide)).w (by decide) (by decide)), q_ff.rf⟩) dX7_number_39
    · have kv34 : q_V 1 2 kx28 := (q_le1 kv31 (q_c (k := 2) (x := 2) (by decide)) (Int32.not_lt.mp kc32)).w (by decide) (by decide)
      refine lv_aload_n hx hb dX7_number_20 rfl (lv_at hl 1 rfl) ?_
      refine q_getr hE hW h0 rfl q_k7 0 (by decide) rfl (hE.l wl_105) dX7_number_21 (fun kb35 ekb35 hkb35a hkb35b => ?_)
      have hkb35 : q_T G kb35 = 13 := q_tag hkb35a hkb35b
      refine lv_aload_n hx hb dX7_number_24 rfl (lv_at hl 1 rfl) ?_
      refine q_geti hE hW h0 rfl q_k7 3 (by decide) rfl (hE.l wl_193) dX7_number_25 (fun kx36 ekx36 vkx36 => ?_)
      obtain rfl : kx27 = kx36 := ekx27.symm.trans ekx36
      refine q_goi hW (q_runV (As := [.int kx27]) (rest := []) hE hW (c_X8_at l G σ kb35 hkb35 kx27) kw_X7_51 (q_recv hE hW hkb35 rfl q_k8) rfl hl.1 rfl (Nat.le_of_ble_eq_true rfl) dX7_number_28 ⟨by decide, by decide⟩ ⟨by decide, by decide⟩) (by decide) (fun kx40 ks38 H locs kp37 kf39 hW => ?_)
      refine q_goi hW (q_runS (As := [.int kx40]) (rest := []) hE hW (c_X7_sortOf l G ks38 kx40) kw_X7_55 rfl hl.1 rfl (Nat.le_of_ble_eq_true rfl) dX7_number_31 ⟨by decide, by decide⟩ ⟨by decide, by decide⟩) (by decide) (fun kx44 ks42 H locs kp41 kf43 hW => ?_)
      refine lv_iconst (v := 2) hx hb dX7_number_34 (by decide) ?_
      refine lv_icmp_eq (tgt := 40) hx hb dX7_number_35 (by decide) (fun kc45 => ?_) (fun kc45 => ?_)
      · have kv46 : q_V 2 2 kx44 := q_eq1 kp41 (q_c (k := 2) (x := 2) (by decide)) kc45 (by decide) (by decide)
        refine lv_iconst (v := 0) hx hb dX7_number_40 (by decide) ?_
        refine lv_istore (lv' := [(4, .int 0), (3, .int kx28), (0, .ref a0), (1, .int i1), (2, .int i2)]) hx hb dX7_number_41 hl (by decide) rfl (fun ls hl => ?_)
        refine lv_aload_n hx hb dX7_number_43 rfl (lv_at hl 2 rfl) ?_
        refine q_geti hE hW h0 rfl q_k7 3 (by decide) rfl (hE.l wl_193) dX7_number_44 (fun kx47 ekx47 vkx47 => ?_)
        obtain rfl : kx27 = kx47 := (((kf43.I _ h0 (by decide)).trans (kf39.I _ h0 (by decide))).trans ekx27).symm.trans ekx47
        refine lv_istore (lv' := [(5, .int kx27), (4, .int 0), (3, .int kx28), (0, .ref a0), (1, .int i1), (2, .int i2)]) hx hb dX7_number_47 hl (by decide) rfl (fun ls hl => ?_)
        exact lp49a _ _ _ _ 0 kx27 hW ((q_ff.rf.fr kf39 h0 (by decide)).fr kf43 h0 (by decide)) ls (lv_sub hl [3, 4, 5, 1, 0] rfl) (Nat.lt_succ_self _)
      · refine lv_iconst (v := (-1)) hx hb dX7_number_38 (by decide) ?_
        exact q_reti hE hr hlocks hW (⟨((q_c (k := (-1)) (x := (-1)) (by decide)).w (by decide) (by decide)), ((q_ff.rf.fr kf39 h0 (by decide)).fr kf43 h0 (by decide))⟩) dX7_number_39
set_option maxHeartbeats 4000000 in
set_option maxRecDepth 100000 in
theorem c_X7_readsWasher (l : Launch) (G : q_G) (σ : q_S) (a0 : Nat) (h0 : q_T G a0 = 15)  : Met l yX7_readsWasher (Cond.code yX7_readsWasher cX7_readsWasher 2 (some .boolean) :: wsL_law) (q_Rm 4) (q_Pre G σ [.ref a0]) (q_Qi G [7, 9, 15] σ (fun r σ1 => q_V 0 1 r ∧ q_ff σ σ1 a0 [3, 4])) 0 0 (q_N G) := by
  refine q_ofW (ts := [7, 9, 15]) (by decide) (Nat.le_of_ble_eq_true rfl) ?_
  intro p e s m args below meth c hE hr hlocks hW ls hl
  have hE : q_E G p s m args c cX7_readsWasher 2 RX7 := hE
  have hx := hE.1.1
  have hb := hE.1.2.1
  have hl : lv_has ls 2 [(0, .ref a0)] := hl
  refine lv_aload_n hx hb dX7_readsWasher_0 rfl (lv_at hl 0 rfl) ?_
  refine q_getr hE hW h0 rfl q_k7 1 (by decide) rfl (hE.l wl_106) dX7_readsWasher_1 (fun kb1 ekb1 hkb1a hkb1b => ?_)
  have hkb1 : q_T G kb1 = 7 := q_tag hkb1a hkb1b
  refine q_geti hE hW hkb1 rfl q_k2 4 (by decide) rfl (hE.n 26 rfl) dX7_readsWasher_4 (fun kx2 ekx2 vkx2 => ?_)
  refine lv_iconst (v := 3) hx hb dX7_readsWasher_7 (by decide) ?_
  refine lv_icmp_lt (tgt := 13) hx hb dX7_readsWasher_8 (by decide) (fun kc3 => ?_) (fun kc3 => ?_)
  · have kv4 : q_V 0 2 kx2 := (q_lt1 vkx2 (q_c (k := 3) (x := 3) (by decide)) kc3).w (by decide) (by decide)
    refine lv_aload_n hx hb dX7_readsWasher_13 rfl (lv_at hl 0 rfl) ?_
    refine q_gov hW (q_runV (As := []) (rest := []) hE hW (c_X7_step l G σ a0 h0) kw_X7_33 (q_recv hE hW h0 rfl q_k7) rfl hl.1 rfl (Nat.le_of_ble_eq_true rfl) dX7_readsWasher_14 ⟨by decide, by decide⟩ ⟨by decide, by decide⟩) (by decide) (fun ks6 H locs kp5 kf7 hW => ?_)
    refine lv_aload_n hx hb dX7_readsWasher_17 rfl (lv_at hl 0 rfl) ?_
    refine lv_iconst (v := 1) hx hb dX7_readsWasher_18 (by decide) ?_
    refine lv_iconst (v := 3) hx hb dX7_readsWasher_19 (by decide) ?_
    refine q_goi hW (q_runV (As := [.int 1, .int 3]) (rest := []) hE hW (c_X7_number l G ks6 a0 h0 1 3) kw_X7_109 (q_recv hE hW h0 rfl q_k7) rfl hl.1 rfl (Nat.le_of_ble_eq_true rfl) dX7_readsWasher_20 ⟨by decide, by decide⟩ ⟨by decide, by decide⟩) (by decide) (fun kx11 ks9 H locs kp8 kf10 hW => ?_)
    refine lv_istore_n (lv' := [(1, .int kx11), (0, .ref a0)]) hx hb dX7_readsWasher_23 rfl hl (by decide) rfl (fun ls hl => ?_)
    refine lv_iload_n hx hb dX7_readsWasher_24 rfl (lv_at hl 0 rfl) ?_
    refine lv_iconst (v := (-1)) hx hb dX7_readsWasher_25 (by decide) ?_
    refine lv_icmp_ne (tgt := 31) hx hb dX7_readsWasher_26 (by decide) (fun kc12 => ?_) (fun kc12 => ?_)
    · refine lv_aload_n hx hb dX7_readsWasher_31 rfl (lv_at hl 1 rfl) ?_
      refine q_getr hE hW h0 rfl q_k7 1 (by decide) rfl (hE.l wl_106) dX7_readsWasher_32 (fun kb13 ekb13 hkb13a hkb13b => ?_)
      obtain rfl : kb1 = kb13 := (((kp8.2.2 1).trans (kp5.2 1)).trans ekb1).symm.trans ekb13
      refine lv_iload_n hx hb dX7_readsWasher_35 rfl (lv_at hl 0 rfl) ?_
      refine q_gov hW (q_runV (As := [.int kx11]) (rest := []) hE hW (c_X2_addWasher l G ks9 kb1 hkb1 kx11) kw_X7_130 (q_recv hE hW hkb1 rfl q_k2) rfl hl.1 rfl (Nat.le_of_ble_eq_true rfl) dX7_readsWasher_36 ⟨by decide, by decide⟩ ⟨by decide, by decide⟩) (by decide) (fun ks15 H locs kp14 kf16 hW => ?_)
      refine lv_iconst (v := 1) hx hb dX7_readsWasher_39 (by decide) ?_
      exact q_retz hE hr hlocks hW (Or.inr rfl) (⟨((q_c (k := 1) (x := 1) (by decide)).w (by decide) (by decide)), (((q_ff.rf.tr kp5 (by decide)).tr kp8.2 (by decide)).fr kf16 h0 (by decide))⟩) dX7_readsWasher_40
    · have kv17 : q_V (-1) (-1) kx11 := q_eq1 (q_all kx11) (q_c (k := (-1)) (x := (-1)) (by decide)) kc12 (by decide) (by decide)
      refine lv_iconst (v := 0) hx hb dX7_readsWasher_29 (by decide) ?_
      exact q_retz hE hr hlocks hW (Or.inl rfl) (⟨((q_c (k := 0) (x := 0) (by decide)).w (by decide) (by decide)), ((q_ff.rf.tr kp5 (by decide)).tr kp8.2 (by decide))⟩) dX7_readsWasher_30
  · have kv18 : q_V 3 3 kx2 := (q_le2 (q_c (k := 3) (x := 3) (by decide)) vkx2 (Int32.not_lt.mp kc3)).w (by decide) (by decide)
    refine lv_iconst (v := 0) hx hb dX7_readsWasher_11 (by decide) ?_
    exact q_retz hE hr hlocks hW (Or.inl rfl) (⟨((q_c (k := 0) (x := 0) (by decide)).w (by decide) (by decide)), q_ff.rf⟩) dX7_readsWasher_12
set_option maxHeartbeats 4000000 in
set_option maxRecDepth 100000 in
theorem c_X7_readsSoap (l : Launch) (G : q_G) (σ : q_S) (a0 : Nat) (h0 : q_T G a0 = 15)  : Met l yX7_readsSoap (Cond.code yX7_readsSoap cX7_readsSoap 2 (some .boolean) :: wsL_law) (q_Rm 4) (q_Pre G σ [.ref a0]) (q_Qi G [7, 15] σ (fun r σ1 => q_V 0 1 r ∧ q_ff σ σ1 a0 [3, 4])) 0 0 (q_N G) := by
  refine q_ofW (ts := [7, 15]) (by decide) (Nat.le_of_ble_eq_true rfl) ?_
  intro p e s m args below meth c hE hr hlocks hW ls hl
  have hE : q_E G p s m args c cX7_readsSoap 2 RX7 := hE
  have hx := hE.1.1
  have hb := hE.1.2.1
  have hl : lv_has ls 2 [(0, .ref a0)] := hl
  refine lv_aload_n hx hb dX7_readsSoap_0 rfl (lv_at hl 0 rfl) ?_
  refine q_gov hW (q_runV (As := []) (rest := []) hE hW (c_X7_step l G σ a0 h0) kw_X7_33 (q_recv hE hW h0 rfl q_k7) rfl hl.1 rfl (Nat.le_of_ble_eq_true rfl) dX7_readsSoap_1 ⟨by decide, by decide⟩ ⟨by decide, by decide⟩) (by decide) (fun ks2 H locs kp1 kf3 hW => ?_)
  refine lv_aload_n hx hb dX7_readsSoap_4 rfl (lv_at hl 0 rfl) ?_
  refine lv_iconst (v := 0) hx hb dX7_readsSoap_5 (by decide) ?_
  refine lv_bipush (v := 99) hx hb dX7_readsSoap_6 (by decide) ?_
  refine q_goi hW (q_runV (As := [.int 0, .int 99]) (rest := []) hE hW (c_X7_number l G ks2 a0 h0 0 99) kw_X7_109 (q_recv hE hW h0 rfl q_k7) rfl hl.1 rfl (Nat.le_of_ble_eq_true rfl) dX7_readsSoap_8 ⟨by decide, by decide⟩ ⟨by decide, by decide⟩) (by decide) (fun kx7 ks5 H locs kp4 kf6 hW => ?_)
  refine lv_istore_n (lv' := [(1, .int kx7), (0, .ref a0)]) hx hb dX7_readsSoap_11 rfl hl (by decide) rfl (fun ls hl => ?_)
  refine lv_iload_n hx hb dX7_readsSoap_12 rfl (lv_at hl 0 rfl) ?_
  refine lv_iconst (v := (-1)) hx hb dX7_readsSoap_13 (by decide) ?_
  refine lv_icmp_ne (tgt := 19) hx hb dX7_readsSoap_14 (by decide) (fun kc8 => ?_) (fun kc8 => ?_)
  · refine lv_aload_n hx hb dX7_readsSoap_19 rfl (lv_at hl 1 rfl) ?_
    refine q_getr hE hW h0 rfl q_k7 1 (by decide) rfl (hE.l wl_106) dX7_readsSoap_20 (fun kb9 ekb9 hkb9a hkb9b => ?_)
    have hkb9 : q_T G kb9 = 7 := q_tag hkb9a hkb9b
    refine lv_iload_n hx hb dX7_readsSoap_23 rfl (lv_at hl 0 rfl) ?_
    refine q_puti hE hW hkb9 rfl q_k2 tyX2 tyX2_ok 6 (by decide) rfl (hE.n 29 rfl) rfl rfl rfl (q_all kx7) (by decide) dX7_readsSoap_24 (fun H locs ks10 kp11 hW => ?_)
    refine lv_iconst (v := 1) hx hb dX7_readsSoap_27 (by decide) ?_
    exact q_retz hE hr hlocks hW (Or.inr rfl) (⟨((q_c (k := 1) (x := 1) (by decide)).w (by decide) (by decide)), (((q_ff.rf.tr kp1 (by decide)).tr kp4.2 (by decide)).wO kp11 (q_neT h0 hkb9 (by decide)))⟩) dX7_readsSoap_28
  · have kv12 : q_V (-1) (-1) kx7 := q_eq1 (q_all kx7) (q_c (k := (-1)) (x := (-1)) (by decide)) kc8 (by decide) (by decide)
    refine lv_iconst (v := 0) hx hb dX7_readsSoap_17 (by decide) ?_
    exact q_retz hE hr hlocks hW (Or.inl rfl) (⟨((q_c (k := 0) (x := 0) (by decide)).w (by decide) (by decide)), ((q_ff.rf.tr kp1 (by decide)).tr kp4.2 (by decide))⟩) dX7_readsSoap_18
set_option maxHeartbeats 4000000 in
set_option maxRecDepth 100000 in
theorem c_X7_readsEye (l : Launch) (G : q_G) (σ : q_S) (a0 : Nat) (h0 : q_T G a0 = 15)  : Met l yX7_readsEye (Cond.code yX7_readsEye cX7_readsEye 2 (some .boolean) :: wsL_law) (q_Rm 4) (q_Pre G σ [.ref a0]) (q_Qi G [7, 15] σ (fun r σ1 => q_V 0 1 r ∧ q_ff σ σ1 a0 [3, 4])) 0 0 (q_N G) := by
  refine q_ofW (ts := [7, 15]) (by decide) (Nat.le_of_ble_eq_true rfl) ?_
  intro p e s m args below meth c hE hr hlocks hW ls hl
  have hE : q_E G p s m args c cX7_readsEye 2 RX7 := hE
  have hx := hE.1.1
  have hb := hE.1.2.1
  have hl : lv_has ls 2 [(0, .ref a0)] := hl
  refine lv_aload_n hx hb dX7_readsEye_0 rfl (lv_at hl 0 rfl) ?_
  refine q_gov hW (q_runV (As := []) (rest := []) hE hW (c_X7_step l G σ a0 h0) kw_X7_33 (q_recv hE hW h0 rfl q_k7) rfl hl.1 rfl (Nat.le_of_ble_eq_true rfl) dX7_readsEye_1 ⟨by decide, by decide⟩ ⟨by decide, by decide⟩) (by decide) (fun ks2 H locs kp1 kf3 hW => ?_)
  refine lv_aload_n hx hb dX7_readsEye_4 rfl (lv_at hl 0 rfl) ?_
  refine lv_iconst (v := 1) hx hb dX7_readsEye_5 (by decide) ?_
  refine lv_bipush (v := 99) hx hb dX7_readsEye_6 (by decide) ?_
  refine q_goi hW (q_runV (As := [.int 1, .int 99]) (rest := []) hE hW (c_X7_number l G ks2 a0 h0 1 99) kw_X7_109 (q_recv hE hW h0 rfl q_k7) rfl hl.1 rfl (Nat.le_of_ble_eq_true rfl) dX7_readsEye_8 ⟨by decide, by decide⟩ ⟨by decide, by decide⟩) (by decide) (fun kx7 ks5 H locs kp4 kf6 hW => ?_)
  refine lv_istore_n (lv' := [(1, .int kx7), (0, .ref a0)]) hx hb dX7_readsEye_11 rfl hl (by decide) rfl (fun ls hl => ?_)
  refine lv_iload_n hx hb dX7_readsEye_12 rfl (lv_at hl 0 rfl) ?_
  refine lv_iconst (v := (-1)) hx hb dX7_readsEye_13 (by decide) ?_
  refine lv_icmp_ne (tgt := 19) hx hb dX7_readsEye_14 (by decide) (fun kc8 => ?_) (fun kc8 => ?_)
  · refine lv_aload_n hx hb dX7_readsEye_19 rfl (lv_at hl 1 rfl) ?_
    refine q_getr hE hW h0 rfl q_k7 1 (by decide) rfl (hE.l wl_106) dX7_readsEye_20 (fun kb9 ekb9 hkb9a hkb9b => ?_)
    have hkb9 : q_T G kb9 = 7 := q_tag hkb9a hkb9b
    refine lv_iload_n hx hb dX7_readsEye_23 rfl (lv_at hl 0 rfl) ?_
    refine q_puti hE hW hkb9 rfl q_k2 tyX2 tyX2_ok 7 (by decide) rfl (hE.n 31 rfl) rfl rfl rfl (q_all kx7) (by decide) dX7_readsEye_24 (fun H locs ks10 kp11 hW => ?_)
    refine lv_iconst (v := 1) hx hb dX7_readsEye_27 (by decide) ?_
    exact q_retz hE hr hlocks hW (Or.inr rfl) (⟨((q_c (k := 1) (x := 1) (by decide)).w (by decide) (by decide)), (((q_ff.rf.tr kp1 (by decide)).tr kp4.2 (by decide)).wO kp11 (q_neT h0 hkb9 (by decide)))⟩) dX7_readsEye_28
  · have kv12 : q_V (-1) (-1) kx7 := q_eq1 (q_all kx7) (q_c (k := (-1)) (x := (-1)) (by decide)) kc8 (by decide) (by decide)
    refine lv_iconst (v := 0) hx hb dX7_readsEye_17 (by decide) ?_
    exact q_retz hE hr hlocks hW (Or.inl rfl) (⟨((q_c (k := 0) (x := 0) (by decide)).w (by decide) (by decide)), ((q_ff.rf.tr kp1 (by decide)).tr kp4.2 (by decide))⟩) dX7_readsEye_18
set_option maxHeartbeats 4000000 in
set_option maxRecDepth 100000 in
theorem c_X7_readsStain (l : Launch) (G : q_G) (σ : q_S) (a0 : Nat) (h0 : q_T G a0 = 15)  : Met l yX7_readsStain (Cond.code yX7_readsStain cX7_readsStain 4 (some .boolean) :: wsL_law) (q_Rm 4) (q_Pre G σ [.ref a0]) (q_Qi G [6, 15] σ (fun r σ1 => q_V 0 1 r ∧ q_ff σ σ1 a0 [3, 4])) 0 0 (q_N G) := by
  refine q_ofW (ts := [6, 15]) (by decide) (Nat.le_of_ble_eq_true rfl) ?_
  intro p e s m args below meth c hE hr hlocks hW ls hl
  have hE : q_E G p s m args c cX7_readsStain 4 RX7 := hE
  have hx := hE.1.1
  have hb := hE.1.2.1
  have hl : lv_has ls 4 [(0, .ref a0)] := hl
  refine lv_aload_n hx hb dX7_readsStain_0 rfl (lv_at hl 0 rfl) ?_
  refine q_gov hW (q_runV (As := []) (rest := []) hE hW (c_X7_step l G σ a0 h0) kw_X7_33 (q_recv hE hW h0 rfl q_k7) rfl hl.1 rfl (Nat.le_of_ble_eq_true rfl) dX7_readsStain_1 ⟨by decide, by decide⟩ ⟨by decide, by decide⟩) (by decide) (fun ks2 H locs kp1 kf3 hW => ?_)
  refine lv_aload_n hx hb dX7_readsStain_4 rfl (lv_at hl 0 rfl) ?_
  refine q_getr hE hW h0 rfl q_k7 1 (by decide) rfl (hE.l wl_106) dX7_readsStain_5 (fun kb4 ekb4 hkb4a hkb4b => ?_)
  have hkb4 : q_T G kb4 = 7 := q_tag hkb4a hkb4b
  refine lv_aload_n hx hb dX7_readsStain_8 rfl (lv_at hl 0 rfl) ?_
  refine lv_iconst (v := 0) hx hb dX7_readsStain_9 (by decide) ?_
  refine lv_aload_n hx hb dX7_readsStain_10 rfl (lv_at hl 0 rfl) ?_
  refine q_getr hE hW h0 rfl q_k7 1 (by decide) rfl (hE.l wl_106) dX7_readsStain_11 (fun kb5 ekb5 hkb5a hkb5b => ?_)
  obtain rfl : kb4 = kb5 := ekb4.symm.trans ekb5
  refine q_geti hE hW hkb4 rfl q_k2 1 (by decide) rfl (hE.n 20 rfl) dX7_readsStain_14 (fun kx6 ekx6 vkx6 => ?_)
  refine lv_iconst (v := 1) hx hb dX7_readsStain_17 (by decide) ?_
  refine lv_isub hx hb dX7_readsStain_18 ?_
  refine lv_topi (fun kx7 ekx7 => ?_)
  have vkx7 : q_V (-1) 5 kx7 := by rw [ekx7]; exact (q_sub vkx6 (q_c (k := 1) (x := 1) (by decide)) (by decide) (by decide)).w (by decide) (by decide)
  refine q_goi hW (q_runV (As := [.int 0, .int kx7]) (rest := [.ref kb4]) hE hW (c_X7_number l G ks2 a0 h0 0 kx7) kw_X7_109 (q_recv hE hW h0 rfl q_k7) rfl hl.1 rfl (Nat.le_of_ble_eq_true rfl) dX7_readsStain_19 ⟨by decide, by decide⟩ ⟨by decide, by decide⟩) (by decide) (fun kx11 ks9 H locs kp8 kf10 hW => ?_)
  refine q_goq hW (q_runV (As := [.int kx11]) (rest := []) hE hW (c_X2_cloudAt l G ks9 kb4 hkb4 kx11) kw_X7_117 (q_recv hE hW hkb4 rfl q_k2) rfl hl.1 rfl (Nat.le_of_ble_eq_true rfl) dX7_readsStain_22 ⟨by decide, by decide⟩ ⟨by decide, by decide⟩) (by decide) (fun ks13 H locs kp12 kf14 hW => ?_) (fun kb15 ks13 H locs kp12 kf14 hW => ?_)
  · refine lv_astore_nN (lv' := [(1, .null), (0, .ref a0)]) hx hb dX7_readsStain_25 rfl hl (by decide) rfl (fun ls hl => ?_)
    refine lv_aload_nN hx hb dX7_readsStain_26 rfl (lv_at hl 0 rfl) ?_
    refine lv_ifnonnullN hx hb dX7_readsStain_27 ?_
    refine lv_iconst (v := 0) hx hb dX7_readsStain_30 (by decide) ?_
    exact q_retz hE hr hlocks hW (Or.inl rfl) (⟨((q_c (k := 0) (x := 0) (by decide)).w (by decide) (by decide)), (((q_ff.rf.tr kp1 (by decide)).tr kp8.2 (by decide)).fr kf14 h0 (by decide))⟩) dX7_readsStain_31
  · have hkb15 : q_T G kb15 = 5 := kp12 kb15 rfl
    refine lv_astore_n (lv' := [(1, .ref kb15), (0, .ref a0)]) hx hb dX7_readsStain_25 rfl hl (by decide) rfl (fun ls hl => ?_)
    refine lv_aload_n hx hb dX7_readsStain_26 rfl (lv_at hl 0 rfl) ?_
    refine lv_ifnonnull hx hb dX7_readsStain_27 (tgt := 32) (by decide) ?_
    refine lv_aload_n hx hb dX7_readsStain_32 rfl (lv_at hl 1 rfl) ?_
    refine lv_iconst (v := 0) hx hb dX7_readsStain_33 (by decide) ?_
    refine lv_iconst (v := 5) hx hb dX7_readsStain_34 (by decide) ?_
    refine q_goi hW (q_runV (As := [.int 0, .int 5]) (rest := []) hE hW (c_X7_number l G ks13 a0 h0 0 5) kw_X7_109 (q_recv hE hW h0 rfl q_k7) rfl hl.1 rfl (Nat.le_of_ble_eq_true rfl) dX7_readsStain_35 ⟨by decide, by decide⟩ ⟨by decide, by decide⟩) (by decide) (fun kx19 ks17 H locs kp16 kf18 hW => ?_)
    refine lv_istore_n (lv' := [(2, .int kx19), (1, .ref kb15), (0, .ref a0)]) hx hb dX7_readsStain_38 rfl hl (by decide) rfl (fun ls hl => ?_)
    refine lv_iload_n hx hb dX7_readsStain_39 rfl (lv_at hl 0 rfl) ?_
    refine lv_if_lt (tgt := 49) hx hb dX7_readsStain_40 (by decide) (fun kc20 => ?_) (fun kc20 => ?_)
    · have kv21 : q_V (-2147483648) (-1) kx19 := (q_lt1 (q_all kx19) (q_c (k := 0) (x := 0) (by decide)) kc20).w (by decide) (by decide)
      refine lv_iconst (v := 0) hx hb dX7_readsStain_49 (by decide) ?_
      exact q_retz hE hr hlocks hW (Or.inl rfl) (⟨((q_c (k := 0) (x := 0) (by decide)).w (by decide) (by decide)), ((((q_ff.rf.tr kp1 (by decide)).tr kp8.2 (by decide)).fr kf14 h0 (by decide)).tr kp16.2 (by decide))⟩) dX7_readsStain_50
    · have kv22 : q_V 0 2147483647 kx19 := (q_le2 (q_c (k := 0) (x := 0) (by decide)) (q_all kx19) (Int32.not_lt.mp kc20)).w (by decide) (by decide)
      refine lv_iload_n hx hb dX7_readsStain_43 rfl (lv_at hl 0 rfl) ?_
      refine lv_bipush (v := 6) hx hb dX7_readsStain_44 (by decide) ?_
      refine lv_icmp_lt (tgt := 51) hx hb dX7_readsStain_46 (by decide) (fun kc23 => ?_) (fun kc23 => ?_)
      · have kv24 : q_V 0 5 kx19 := (q_lt1 kv22 (q_c (k := 6) (x := 6) (by decide)) kc23).w (by decide) (by decide)
        refine lv_aload_n hx hb dX7_readsStain_51 rfl (lv_at hl 2 rfl) ?_
        refine lv_iconst (v := 0) hx hb dX7_readsStain_52 (by decide) ?_
        refine lv_bipush (v := 9) hx hb dX7_readsStain_53 (by decide) ?_
        refine q_goi hW (q_runV (As := [.int 0, .int 9]) (rest := []) hE hW (c_X7_number l G ks17 a0 h0 0 9) kw_X7_109 (q_recv hE hW h0 rfl q_k7) rfl hl.1 rfl (Nat.le_of_ble_eq_true rfl) dX7_readsStain_55 ⟨by decide, by decide⟩ ⟨by decide, by decide⟩) (by decide) (fun kx28 ks26 H locs kp25 kf27 hW => ?_)
        refine lv_istore_n (lv' := [(3, .int kx28), (2, .int kx19), (1, .ref kb15), (0, .ref a0)]) hx hb dX7_readsStain_58 rfl hl (by decide) rfl (fun ls hl => ?_)
        refine lv_iload_n hx hb dX7_readsStain_59 rfl (lv_at hl 0 rfl) ?_
        refine lv_iconst (v := (-1)) hx hb dX7_readsStain_60 (by decide) ?_
        refine lv_icmp_ne (tgt := 66) hx hb dX7_readsStain_61 (by decide) (fun kc29 => ?_) (fun kc29 => ?_)
        · refine lv_aload_n hx hb dX7_readsStain_66 rfl (lv_at hl 2 rfl) ?_
          refine q_getr hE hW hkb15 rfl q_k1 5 (by decide) rfl (hE.n 15 rfl) dX7_readsStain_67 (fun kb30 ekb30 hkb30a hkb30b => ?_)
          have hkb30 : q_T G kb30 = 6 := q_tag hkb30a hkb30b
          refine lv_iload_n hx hb dX7_readsStain_70 rfl (lv_at hl 1 rfl) ?_
          refine lv_iload_n hx hb dX7_readsStain_71 rfl (lv_at hl 0 rfl) ?_
          refine q_iast hE hW hkb30 rfl (q_in kv24 (by decide) (by decide)) trivial (by decide) dX7_readsStain_72 (fun H locs ks31 kp32 hW => ?_)
          refine lv_iconst (v := 1) hx hb dX7_readsStain_73 (by decide) ?_
          exact q_retz hE hr hlocks hW (Or.inr rfl) (⟨((q_c (k := 1) (x := 1) (by decide)).w (by decide) (by decide)), ((((((q_ff.rf.tr kp1 (by decide)).tr kp8.2 (by decide)).fr kf14 h0 (by decide)).tr kp16.2 (by decide)).tr kp25.2 (by decide)).wA kp32)⟩) dX7_readsStain_74
        · have kv33 : q_V (-1) (-1) kx28 := q_eq1 (q_all kx28) (q_c (k := (-1)) (x := (-1)) (by decide)) kc29 (by decide) (by decide)
          refine lv_iconst (v := 0) hx hb dX7_readsStain_64 (by decide) ?_
          exact q_retz hE hr hlocks hW (Or.inl rfl) (⟨((q_c (k := 0) (x := 0) (by decide)).w (by decide) (by decide)), (((((q_ff.rf.tr kp1 (by decide)).tr kp8.2 (by decide)).fr kf14 h0 (by decide)).tr kp16.2 (by decide)).tr kp25.2 (by decide))⟩) dX7_readsStain_65
      · have kv34 : q_V 6 2147483647 kx19 := (q_le2 (q_c (k := 6) (x := 6) (by decide)) kv22 (Int32.not_lt.mp kc23)).w (by decide) (by decide)
        refine lv_iconst (v := 0) hx hb dX7_readsStain_49 (by decide) ?_
        exact q_retz hE hr hlocks hW (Or.inl rfl) (⟨((q_c (k := 0) (x := 0) (by decide)).w (by decide) (by decide)), ((((q_ff.rf.tr kp1 (by decide)).tr kp8.2 (by decide)).fr kf14 h0 (by decide)).tr kp16.2 (by decide))⟩) dX7_readsStain_50
set_option maxHeartbeats 4000000 in
set_option maxRecDepth 100000 in
theorem c_X7_readsCloud (l : Launch) (G : q_G) (σ : q_S) (a0 : Nat) (h0 : q_T G a0 = 15) (a1 : Nat) (h1a : (1 : Int) ≤ (q_T G a1 : Int))  (h1b : (q_T G a1 : Int) ≤ 4)  : Met l yX7_readsCloud (Cond.code yX7_readsCloud cX7_readsCloud 4 (some .boolean) :: wsL_law) (q_Rm 5) (q_Pre G σ [.ref a0, .ref a1]) (q_Qi G [5, 6, 7, 15] σ (fun r σ1 => q_V 0 1 r ∧ q_ff σ σ1 a0 [3, 4])) 0 0 (q_N G) := by
  refine q_ofW (ts := [5, 6, 7, 15]) (by decide) (Nat.le_of_ble_eq_true rfl) ?_
  intro p e s m args below meth c hE hr hlocks hW ls hl
  have hE : q_E G p s m args c cX7_readsCloud 4 RX7 := hE
  have hx := hE.1.1
  have hb := hE.1.2.1
  have hl : lv_has ls 4 [(0, .ref a0), (1, .ref a1)] := hl
  refine lv_aload_n hx hb dX7_readsCloud_0 rfl (lv_at hl 0 rfl) ?_
  refine q_getr hE hW h0 rfl q_k7 1 (by decide) rfl (hE.l wl_106) dX7_readsCloud_1 (fun kb1 ekb1 hkb1a hkb1b => ?_)
  have hkb1 : q_T G kb1 = 7 := q_tag hkb1a hkb1b
  refine q_geti hE hW hkb1 rfl q_k2 1 (by decide) rfl (hE.n 20 rfl) dX7_readsCloud_4 (fun kx2 ekx2 vkx2 => ?_)
  refine lv_bipush (v := 6) hx hb dX7_readsCloud_7 (by decide) ?_
  refine lv_icmp_lt (tgt := 14) hx hb dX7_readsCloud_9 (by decide) (fun kc3 => ?_) (fun kc3 => ?_)
  · have kv4 : q_V 0 5 kx2 := (q_lt1 vkx2 (q_c (k := 6) (x := 6) (by decide)) kc3).w (by decide) (by decide)
    refine lv_aload_n hx hb dX7_readsCloud_14 rfl (lv_at hl 0 rfl) ?_
    refine q_gov hW (q_runV (As := []) (rest := []) hE hW (c_X7_step l G σ a0 h0) kw_X7_33 (q_recv hE hW h0 rfl q_k7) rfl hl.1 rfl (Nat.le_of_ble_eq_true rfl) dX7_readsCloud_15 ⟨by decide, by decide⟩ ⟨by decide, by decide⟩) (by decide) (fun ks6 H locs kp5 kf7 hW => ?_)
    refine lv_aload_n hx hb dX7_readsCloud_18 rfl (lv_at hl 0 rfl) ?_
    refine lv_iconst (v := 1) hx hb dX7_readsCloud_19 (by decide) ?_
    refine lv_bipush (v := 99) hx hb dX7_readsCloud_20 (by decide) ?_
    refine q_goi hW (q_runV (As := [.int 1, .int 99]) (rest := []) hE hW (c_X7_number l G ks6 a0 h0 1 99) kw_X7_109 (q_recv hE hW h0 rfl q_k7) rfl hl.1 rfl (Nat.le_of_ble_eq_true rfl) dX7_readsCloud_22 ⟨by decide, by decide⟩ ⟨by decide, by decide⟩) (by decide) (fun kx11 ks9 H locs kp8 kf10 hW => ?_)
    refine lv_istore_n (lv' := [(2, .int kx11), (0, .ref a0), (1, .ref a1)]) hx hb dX7_readsCloud_25 rfl hl (by decide) rfl (fun ls hl => ?_)
    refine lv_iload_n hx hb dX7_readsCloud_26 rfl (lv_at hl 0 rfl) ?_
    refine lv_iconst (v := (-1)) hx hb dX7_readsCloud_27 (by decide) ?_
    refine lv_icmp_ne (tgt := 33) hx hb dX7_readsCloud_28 (by decide) (fun kc12 => ?_) (fun kc12 => ?_)
    · refine lv_aload_n hx hb dX7_readsCloud_33 rfl (lv_at hl 1 rfl) ?_
      refine lv_iconst (v := 0) hx hb dX7_readsCloud_34 (by decide) ?_
      refine lv_bipush (v := 99) hx hb dX7_readsCloud_35 (by decide) ?_
      refine q_goi hW (q_runV (As := [.int 0, .int 99]) (rest := []) hE hW (c_X7_number l G ks9 a0 h0 0 99) kw_X7_109 (q_recv hE hW h0 rfl q_k7) rfl hl.1 rfl (Nat.le_of_ble_eq_true rfl) dX7_readsCloud_37 ⟨by decide, by decide⟩ ⟨by decide, by decide⟩) (by decide) (fun kx16 ks14 H locs kp13 kf15 hW => ?_)
      refine lv_istore_n (lv' := [(3, .int kx16), (2, .int kx11), (0, .ref a0), (1, .ref a1)]) hx hb dX7_readsCloud_40 rfl hl (by decide) rfl (fun ls hl => ?_)
      refine lv_iload_n hx hb dX7_readsCloud_41 rfl (lv_at hl 0 rfl) ?_
      refine lv_iconst (v := (-1)) hx hb dX7_readsCloud_42 (by decide) ?_
      refine lv_icmp_ne (tgt := 48) hx hb dX7_readsCloud_43 (by decide) (fun kc17 => ?_) (fun kc17 => ?_)
      · refine lv_aload_n hx hb dX7_readsCloud_48 rfl (lv_at hl 2 rfl) ?_
        refine q_getr hE hW h0 rfl q_k7 1 (by decide) rfl (hE.l wl_106) dX7_readsCloud_49 (fun kb18 ekb18 hkb18a hkb18b => ?_)
        obtain rfl : kb1 = kb18 := ((((kp13.2.2 1).trans (kp8.2.2 1)).trans (kp5.2 1)).trans ekb1).symm.trans ekb18
        refine lv_aload_n hx hb dX7_readsCloud_52 rfl (lv_at hl 3 rfl) ?_
        refine lv_iload_n hx hb dX7_readsCloud_53 rfl (lv_at hl 1 rfl) ?_
        refine lv_iload_n hx hb dX7_readsCloud_54 rfl (lv_at hl 0 rfl) ?_
        refine q_gov hW (q_runV (As := [.ref a1, .int kx11, .int kx16]) (rest := []) hE hW (c_X2_addCloud l G ks14 kb1 hkb1 a1 (Int.le_trans (by decide) h1a) (Int.le_trans h1b (by decide)) kx11 kx16) kw_X7_113 (q_recv hE hW hkb1 rfl q_k2) rfl hl.1 rfl (Nat.le_of_ble_eq_true rfl) dX7_readsCloud_55 ⟨by decide, by decide⟩ ⟨by decide, by decide⟩) (by decide) (fun ks20 H locs kp19 kf21 hW => ?_)
        refine lv_iconst (v := 1) hx hb dX7_readsCloud_58 (by decide) ?_
        exact q_retz hE hr hlocks hW (Or.inr rfl) (⟨((q_c (k := 1) (x := 1) (by decide)).w (by decide) (by decide)), ((((q_ff.rf.tr kp5 (by decide)).tr kp8.2 (by decide)).tr kp13.2 (by decide)).fr kf21 h0 (by decide))⟩) dX7_readsCloud_59
      · have kv22 : q_V (-1) (-1) kx16 := q_eq1 (q_all kx16) (q_c (k := (-1)) (x := (-1)) (by decide)) kc17 (by decide) (by decide)
        refine lv_iconst (v := 0) hx hb dX7_readsCloud_46 (by decide) ?_
        exact q_retz hE hr hlocks hW (Or.inl rfl) (⟨((q_c (k := 0) (x := 0) (by decide)).w (by decide) (by decide)), (((q_ff.rf.tr kp5 (by decide)).tr kp8.2 (by decide)).tr kp13.2 (by decide))⟩) dX7_readsCloud_47
    · have kv23 : q_V (-1) (-1) kx11 := q_eq1 (q_all kx11) (q_c (k := (-1)) (x := (-1)) (by decide)) kc12 (by decide) (by decide)
      refine lv_iconst (v := 0) hx hb dX7_readsCloud_31 (by decide) ?_
      exact q_retz hE hr hlocks hW (Or.inl rfl) (⟨((q_c (k := 0) (x := 0) (by decide)).w (by decide) (by decide)), ((q_ff.rf.tr kp5 (by decide)).tr kp8.2 (by decide))⟩) dX7_readsCloud_32
  · have kv24 : q_V 6 6 kx2 := (q_le2 (q_c (k := 6) (x := 6) (by decide)) vkx2 (Int32.not_lt.mp kc3)).w (by decide) (by decide)
    refine lv_iconst (v := 0) hx hb dX7_readsCloud_12 (by decide) ?_
    exact q_retz hE hr hlocks hW (Or.inl rfl) (⟨((q_c (k := 0) (x := 0) (by decide)).w (by decide) (by decide)), q_ff.rf⟩) dX7_readsCloud_13
