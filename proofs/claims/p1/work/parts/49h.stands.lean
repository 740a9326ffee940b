set_option maxHeartbeats 4000000 in
set_option maxRecDepth 100000 in
theorem c_J6_bitCount_0f7a4_tz (l : Launch) (G : q_G) (σ : q_S) (i1 : Int32) (hz : q_fr G [] [] σ) : Met l yJ6_bitCount_0f7a4 (Cond.code yJ6_bitCount_0f7a4 cJ6_bitCount_0f7a4 1 (some .int) :: wsL_law) (q_Rm 1) (q_Pre G σ [.int i1]) (q_Qi G [] σ (fun r σ1 => q_V 0 63 r ∧ (i1.toInt = 0 → r.toInt = 0))) 0 0 (q_N G) := by
  refine q_ofW (ts := []) (by decide) (Nat.le_of_ble_eq_true rfl) ?_
  intro p e s m args below meth c hE hr hlocks hW ls hl
  have hE : q_E G p s m args c cJ6_bitCount_0f7a4 1 RJ6 := hE
  have hx := hE.1.1
  have hb := hE.1.2.1
  have hl : lv_has ls 1 [(0, .int i1)] := hl
  refine lv_iload_n hx hb dJ6_bitCount_0f7a4_0 rfl (lv_at hl 0 rfl) ?_
  refine lv_iload_n hx hb dJ6_bitCount_0f7a4_1 rfl (lv_at hl 0 rfl) ?_
  refine lv_iconst (v := 1) hx hb dJ6_bitCount_0f7a4_2 (by decide) ?_
  refine t_iushr hx hb dJ6_bitCount_0f7a4_3 rfl ?_
  refine lv_topi (fun kx1 ekx1 => ?_)
  refine lv_ldcw (v := 1431655765) hx hb hE.1.2.2.2.1 (hE.w wl_804) dJ6_bitCount_0f7a4_4 ?_
  refine lv_iand hx hb dJ6_bitCount_0f7a4_7 ?_
  refine lv_topi (fun kx2 ekx2 => ?_)
  refine lv_isub hx hb dJ6_bitCount_0f7a4_8 ?_
  refine lv_topi (fun kx3 ekx3 => ?_)
  refine lv_istore_n (lv' := [(0, .int kx3)]) hx hb dJ6_bitCount_0f7a4_9 rfl hl (by decide) rfl (fun ls hl => ?_)
  refine lv_iload_n hx hb dJ6_bitCount_0f7a4_10 rfl (lv_at hl 0 rfl) ?_
  refine lv_ldcw (v := 858993459) hx hb hE.1.2.2.2.1 (hE.w wl_805) dJ6_bitCount_0f7a4_11 ?_
  refine lv_iand hx hb dJ6_bitCount_0f7a4_14 ?_
  refine lv_topi (fun kx4 ekx4 => ?_)
  refine lv_iload_n hx hb dJ6_bitCount_0f7a4_15 rfl (lv_at hl 0 rfl) ?_
  refine lv_iconst (v := 2) hx hb dJ6_bitCount_0f7a4_16 (by decide) ?_
  refine t_iushr hx hb dJ6_bitCount_0f7a4_17 rfl ?_
  refine lv_topi (fun kx5 ekx5 => ?_)
  refine lv_ldcw (v := 858993459) hx hb hE.1.2.2.2.1 (hE.w wl_805) dJ6_bitCount_0f7a4_18 ?_
  refine lv_iand hx hb dJ6_bitCount_0f7a4_21 ?_
  refine lv_topi (fun kx6 ekx6 => ?_)
  refine lv_iadd hx hb dJ6_bitCount_0f7a4_22 ?_
  refine lv_topi (fun kx7 ekx7 => ?_)
  refine lv_istore_n (lv' := [(0, .int kx7)]) hx hb dJ6_bitCount_0f7a4_23 rfl hl (by decide) rfl (fun ls hl => ?_)
  refine lv_iload_n hx hb dJ6_bitCount_0f7a4_24 rfl (lv_at hl 0 rfl) ?_
  refine lv_iload_n hx hb dJ6_bitCount_0f7a4_25 rfl (lv_at hl 0 rfl) ?_
  refine lv_iconst (v := 4) hx hb dJ6_bitCount_0f7a4_26 (by decide) ?_
  refine t_iushr hx hb dJ6_bitCount_0f7a4_27 rfl ?_
  refine lv_topi (fun kx8 ekx8 => ?_)
  refine lv_iadd hx hb dJ6_bitCount_0f7a4_28 ?_
  refine lv_topi (fun kx9 ekx9 => ?_)
  refine lv_ldcw (v := 252645135) hx hb hE.1.2.2.2.1 (hE.w wl_806) dJ6_bitCount_0f7a4_29 ?_
  refine lv_iand hx hb dJ6_bitCount_0f7a4_32 ?_
  refine lv_topi (fun kx10 ekx10 => ?_)
  refine lv_istore_n (lv' := [(0, .int kx10)]) hx hb dJ6_bitCount_0f7a4_33 rfl hl (by decide) rfl (fun ls hl => ?_)
  refine lv_iload_n hx hb dJ6_bitCount_0f7a4_34 rfl (lv_at hl 0 rfl) ?_
  refine lv_iload_n hx hb dJ6_bitCount_0f7a4_35 rfl (lv_at hl 0 rfl) ?_
  refine lv_bipush (v := 8) hx hb dJ6_bitCount_0f7a4_36 (by decide) ?_
  refine t_iushr hx hb dJ6_bitCount_0f7a4_38 rfl ?_
  refine lv_topi (fun kx11 ekx11 => ?_)
  refine lv_iadd hx hb dJ6_bitCount_0f7a4_39 ?_
  refine lv_topi (fun kx12 ekx12 => ?_)
  refine lv_istore_n (lv' := [(0, .int kx12)]) hx hb dJ6_bitCount_0f7a4_40 rfl hl (by decide) rfl (fun ls hl => ?_)
  refine lv_iload_n hx hb dJ6_bitCount_0f7a4_41 rfl (lv_at hl 0 rfl) ?_
  refine lv_iload_n hx hb dJ6_bitCount_0f7a4_42 rfl (lv_at hl 0 rfl) ?_
  refine lv_bipush (v := 16) hx hb dJ6_bitCount_0f7a4_43 (by decide) ?_
  refine t_iushr hx hb dJ6_bitCount_0f7a4_45 rfl ?_
  refine lv_topi (fun kx13 ekx13 => ?_)
  refine lv_iadd hx hb dJ6_bitCount_0f7a4_46 ?_
  refine lv_topi (fun kx14 ekx14 => ?_)
  refine lv_istore_n (lv' := [(0, .int kx14)]) hx hb dJ6_bitCount_0f7a4_47 rfl hl (by decide) rfl (fun ls hl => ?_)
  refine lv_iload_n hx hb dJ6_bitCount_0f7a4_48 rfl (lv_at hl 0 rfl) ?_
  refine lv_bipush (v := 63) hx hb dJ6_bitCount_0f7a4_49 (by decide) ?_
  refine lv_iand hx hb dJ6_bitCount_0f7a4_51 ?_
  refine lv_topi (fun kx15 ekx15 => ?_)
  have vkx15 : q_V 0 63 kx15 := by rw [ekx15]; exact (q_andm 6 (by decide) (by decide)).w (by decide) (by decide)
  exact q_reti hE hr hlocks hW (⟨vkx15, (fun q_h => by obtain rfl : i1 = 0 := Int32.toInt_inj.mp q_h; subst_vars; decide)⟩) dJ6_bitCount_0f7a4_52
set_option maxHeartbeats 4000000 in
set_option maxRecDepth 100000 in
theorem c_X11_stands_tz (l : Launch) (G : q_G) (σ : q_S) (a0 : Nat) (h0 : q_T G a0 = 26) (i1 : Int32) (i2 : Int32) (hz : q_fr G [(7, 1), (7, 4), (7, 6), (7, 7), (7, 8)] [(12, 0, 6), (28, 0, 7)] σ) : Met l yX11_stands (Cond.code yX11_stands cX11_stands 6 (some .int) :: wsL_law) (q_Rm 7) (q_Pre G σ [.ref a0, .int i1, .int i2]) (q_Qi G [5, 6, 7, 9, 10, 12, 28] σ (fun r σ1 => q_V (-2147483648) 2147483647 r ∧ r = kz_stands i1 i2)) 0 0 (q_N G) := by
  refine q_ofW (ts := [5, 6, 7, 9, 10, 12, 28]) (by decide) (Nat.le_of_ble_eq_true rfl) ?_
  intro p e s m args below meth c hE hr hlocks hW ls hl
  have hE : q_E G p s m args c cX11_stands 6 RX11 := hE
  have hx := hE.1.1
  have hb := hE.1.2.1
  have hl : lv_has ls 6 [(0, .ref a0), (1, .int i1), (2, .int i2)] := hl
  have lp36a : ∀ (n36a : Nat) (ks5 : q_S) (H : Heap) (locs : List Loc) (kv1 : q_V 0 63 i1) (kv2 : q_V 0 20 i2) (kx3 : Int32) (vkx3 : q_V (-1) 127 kx3) (kx4 : Int32) (vkx4 : q_V 0 128 kx4) (hW : q_Wd G [5, 6, 7, 9, 10, 12, 28] σ s.heap ks5 H locs) (hz36a : q_fr G [] [(28, 0, 7)] ks5) (iv36a0 : ((kx3 : Int32).toInt = -1 ∧ (i1.toInt ≠ 0 ∨ (kx4 : Int32).toInt = 0)) ∨ ((kx3 : Int32).toInt = 0 ∧ i1.toInt = 0 ∧ 1 ≤ (kx4 : Int32).toInt)) (ls : Array Slot) (hl : lv_has ls 6 [(0, .ref a0), (1, .int i1), (2, .int i2), (3, .int kx3), (4, .int kx4)]), (128 - kx4.toInt).toNat < n36a → W p l e (q_Rm 7) s m args below meth c H locs 0 0 (MQ below (q_Qi G [5, 6, 7, 9, 10, 12, 28] σ (fun r σ1 => q_V (-2147483648) 2147483647 r ∧ r = kz_stands i1 i2)) args s 0 0 (q_N G)) (F0 m 36 ls []) := by
    intro n36a
    induction n36a with
    | zero => intro _ _ _ _ _ _ _ _ _ _ _ _ _ _; exact fun h => absurd h (Nat.not_lt_zero _)
    | succ n36a ih36a =>
      intro ks5 H locs kv1 kv2 kx3 vkx3 kx4 vkx4 hW hz36a iv36a0 ls hl hm36a
      refine lv_iload hx hb dX11_stands_36 (lv_at hl 4 rfl) ?_
      refine lv_sipush (v := 128) hx hb dX11_stands_38 (by decide) ?_
      refine lv_icmp_ge (tgt := 95) hx hb dX11_stands_41 (by decide) (fun kc6 => ?_) (fun kc6 => ?_)
      · have kv7 : q_V 128 128 kx4 := (q_le2 (q_c (k := 128) (x := 128) (by decide)) vkx4 kc6).w (by decide) (by decide)
        refine lv_iload_n hx hb dX11_stands_95 rfl (lv_at hl 3 rfl) ?_
        exact q_reti hE hr hlocks hW (⟨(vkx3.w (by decide) (by decide)), (kst_end iv36a0 (by have := Int32.le_iff_toInt_le.mp kc6; have : (128 : Int32).toInt = 128 := (by decide); have := kv1.1; have := kv1.2; have := kv2.1; have := kv2.2; have := kv7.1; have := kv7.2; omega) (by have := Int32.le_iff_toInt_le.mp kc6; have : (128 : Int32).toInt = 128 := (by decide); have := kv1.1; have := kv1.2; have := kv2.1; have := kv2.2; have := kv7.1; have := kv7.2; omega) (by have := Int32.le_iff_toInt_le.mp kc6; have : (128 : Int32).toInt = 128 := (by decide); have := kv1.1; have := kv1.2; have := kv2.1; have := kv2.2; have := kv7.1; have := kv7.2; omega))⟩) dX11_stands_96
      · have kv8 : q_V 0 127 kx4 := (q_lt1 vkx4 (q_c (k := 128) (x := 128) (by decide)) (Int32.not_le.mp kc6)).w (by decide) (by decide)
        refine lv_iload_n hx hb dX11_stands_44 rfl (lv_at hl 3 rfl) ?_
        refine lv_iconst (v := (-1)) hx hb dX11_stands_45 (by decide) ?_
        refine lv_icmp_eq (tgt := 61) hx hb dX11_stands_46 (by decide) (fun kc9 => ?_) (fun kc9 => ?_)
        · have kv10 : q_V (-1) (-1) kx3 := q_eq1 vkx3 (q_c (k := (-1)) (x := (-1)) (by decide)) kc9 (by decide) (by decide)
          refine lv_iconst (v := 1) hx hb dX11_stands_61 (by decide) ?_
          refine lv_goto (tgt := 66) hx hb dX11_stands_62 (by decide) ?_
          refine lv_istore (lv' := [(5, .int 1), (0, .ref a0), (1, .int i1), (2, .int i2), (3, .int kx3), (4, .int kx4)]) hx hb dX11_stands_66 hl (by decide) rfl (fun ls hl => ?_)
          refine lv_iload hx hb dX11_stands_68 (lv_at hl 0 rfl) ?_
          refine lv_if_eq (tgt := 89) hx hb dX11_stands_70 (by decide) (fun kc11 => ?_) (fun kc11 => ?_)
          · have kv12 : q_V 1 0 1 := q_eq1 (q_c (k := 1) (x := 1) (by decide)) (q_c (k := 0) (x := 0) (by decide)) kc11 (by decide) (by decide)
            exact (kv12.no (by decide))
          · refine lv_iload_n hx hb dX11_stands_73 rfl (lv_at hl 2 rfl) ?_
            refine lv_aload_n hx hb dX11_stands_74 rfl (lv_at hl 1 rfl) ?_
            refine lv_iload hx hb dX11_stands_75 (lv_at hl 5 rfl) ?_
            refine q_goi hW (q_runV (As := [.int kx4]) (rest := [.int i1]) hE hW (c_X11_readFrom_tz l G ks5 a0 h0 kx4 (q_fr.sub hz36a (by decide) (by decide))) kw_X11_238 (q_recv hE hW h0 rfl q_k11) rfl hl.1 rfl (Nat.le_of_ble_eq_true rfl) dX11_stands_77 ⟨by decide, by decide⟩ ⟨by decide, by decide⟩) (by decide) (fun kx16 ks14 H locs kp13 kf15 hW => ?_)
            have kz17 := (q_fr.fr (q_fr.sub (F2 := []) (A2 := [(28, 0, 7)]) hz36a (by decide) (by decide)) kf15 (by decide) (by decide))
            obtain rfl : (0 : Int32) = kx16 := (q_lit kp13 (by decide)).symm
            refine lv_iconst (v := (-1)) hx hb dX11_stands_80 (by decide) ?_
            refine lv_ixor hx hb dX11_stands_81 ?_
            refine lv_eqi (y := (-1)) (by decide) ?_
            refine lv_iand hx hb dX11_stands_82 ?_
            refine lv_eqi (y := i1) (by simp) ?_
            refine lv_if_ne (tgt := 89) hx hb dX11_stands_83 (by decide) (fun kc18 => ?_) (fun kc18 => ?_)
            · have kv19 : q_V 1 63 i1 := q_ne1 kv1 (q_c (k := 0) (x := 0) (by decide)) kc18 (by decide)
              obtain ⟨kx20, ekx20⟩ : ∃ y : Int32, y = kx4 + 1 := ⟨_, rfl⟩
              have vkx20 : q_V 1 128 kx20 := by rw [ekx20]; exact (q_add kv8 (q_c (k := 1) (x := 1) (by decide)) (by decide) (by decide)).w (by decide) (by decide)
              have ikx20 : kx20.toInt = kx4.toInt + 1 := q_incT ekx20 kv8 (by decide) (by decide) (by decide)
              refine lv_iinc (v := kx20) (lv' := [(4, .int kx20), (5, .int 1), (0, .ref a0), (1, .int i1), (2, .int i2), (3, .int kx3)]) hx hb dX11_stands_89 hl (k := 5) rfl (by rw [ekx20]; rfl) (by decide) rfl (fun ls hl => ?_)
              refine lv_goto (tgt := 36) hx hb dX11_stands_92 (by decide) ?_
              exact ih36a _ _ _ (kv19.w (by decide) (by decide)) kv2 kx3 (kv10.w (by decide) (by decide)) kx20 (vkx20.w (by decide) (by decide)) hW (q_fr.sub kz17 (by decide) (by decide)) (by have := Int32.lt_iff_toInt_lt.mp (Int32.not_le.mp kc6); have : (128 : Int32).toInt = 128 := (by decide); have := Int32.toInt_inj.mpr kc9; have : ((-1) : Int32).toInt = -1 := (by decide); have := mt Int32.toInt_inj.mp kc11; have : (1 : Int32).toInt = 1 := (by decide); have : (0 : Int32).toInt = 0 := (by decide); have := mt Int32.toInt_inj.mp kc18; have : (0 : Int32).toInt = 0 := (by decide); have := kv19.1; have := kv19.2; have := kv2.1; have := kv2.2; have := kv8.1; have := kv8.2; have := kv10.1; have := kv10.2; have := kv10.1; have := kv10.2; have := vkx20.1; have := vkx20.2; have := ikx20; have := iv36a0; omega) ls (lv_sub hl [2, 3, 4, 5, 0] rfl) (Nat.lt_of_lt_of_le (q_up (ikx20) (show q_V 1 128 kx20 from vkx20).2) (Nat.le_of_lt_succ hm36a))
            · have kv21 : q_V 0 0 i1 := q_eq1 kv1 (q_c (k := 0) (x := 0) (by decide)) kc18 (by decide) (by decide)
              refine lv_iload hx hb dX11_stands_86 (lv_at hl 5 rfl) ?_
              refine lv_istore_n (lv' := [(3, .int kx4), (5, .int 1), (0, .ref a0), (1, .int i1), (2, .int i2), (4, .int kx4)]) hx hb dX11_stands_88 rfl hl (by decide) rfl (fun ls hl => ?_)
              obtain ⟨kx22, ekx22⟩ : ∃ y : Int32, y = kx4 + 1 := ⟨_, rfl⟩
              have vkx22 : q_V 1 128 kx22 := by rw [ekx22]; exact (q_add kv8 (q_c (k := 1) (x := 1) (by decide)) (by decide) (by decide)).w (by decide) (by decide)
              have ikx22 : kx22.toInt = kx4.toInt + 1 := q_incT ekx22 kv8 (by decide) (by decide) (by decide)
              refine lv_iinc (v := kx22) (lv' := [(4, .int kx22), (3, .int kx4), (5, .int 1), (0, .ref a0), (1, .int i1), (2, .int i2)]) hx hb dX11_stands_89 hl (k := 5) rfl (by rw [ekx22]; rfl) (by decide) rfl (fun ls hl => ?_)
              refine lv_goto (tgt := 36) hx hb dX11_stands_92 (by decide) ?_
              exact ih36a _ _ _ (kv21.w (by decide) (by decide)) kv2 kx4 (kv8.w (by decide) (by decide)) kx22 (vkx22.w (by decide) (by decide)) hW (q_fr.sub kz17 (by decide) (by decide)) (by have := Int32.lt_iff_toInt_lt.mp (Int32.not_le.mp kc6); have : (128 : Int32).toInt = 128 := (by decide); have := Int32.toInt_inj.mpr kc9; have : ((-1) : Int32).toInt = -1 := (by decide); have := mt Int32.toInt_inj.mp kc11; have : (1 : Int32).toInt = 1 := (by decide); have : (0 : Int32).toInt = 0 := (by decide); have := Int32.toInt_inj.mpr kc18; have : (0 : Int32).toInt = 0 := (by decide); have := kv21.1; have := kv21.2; have := kv2.1; have := kv2.2; have := kv8.1; have := kv8.2; have := kv10.1; have := kv10.2; have := kv8.1; have := kv8.2; have := vkx22.1; have := vkx22.2; have := ikx22; have := iv36a0; omega) ls (lv_sub hl [3, 4, 5, 1, 0] rfl) (Nat.lt_of_lt_of_le (q_up (ikx22) (show q_V 1 128 kx22 from vkx22).2) (Nat.le_of_lt_succ hm36a))
        · have kv23 : q_V 0 127 kx3 := q_ne1 vkx3 (q_c (k := (-1)) (x := (-1)) (by decide)) kc9 (by decide)
          refine lv_iload hx hb dX11_stands_49 (lv_at hl 4 rfl) ?_
          refine q_goi hW (q_runS (As := [.int kx4]) (rest := []) hE hW (c_J6_bitCount_0f7a4_tz l G ks5 kx4 (q_fr.sub hz36a (by decide) (by decide))) kw_X11_233 rfl hl.1 rfl (Nat.le_of_ble_eq_true rfl) dX11_stands_51 ⟨by decide, by decide⟩ ⟨by decide, by decide⟩) (by decide) (fun kx27 ks25 H locs kp24 kf26 hW => ?_)
          have kz28 := (q_fr.fr (q_fr.sub (F2 := []) (A2 := [(28, 0, 7)]) hz36a (by decide) (by decide)) kf26 (by decide) (by decide))
          have kh29 := kp24.2
          refine lv_iload_n hx hb dX11_stands_54 rfl (lv_at hl 3 rfl) ?_
          refine q_goi hW (q_runS (As := [.int kx3]) (rest := [.int kx27]) hE hW (c_J6_bitCount_0f7a4_tz l G ks25 kx3 (q_fr.sub kz28 (by decide) (by decide))) kw_X11_233 rfl hl.1 rfl (Nat.le_of_ble_eq_true rfl) dX11_stands_55 ⟨by decide, by decide⟩ ⟨by decide, by decide⟩) (by decide) (fun kx33 ks31 H locs kp30 kf32 hW => ?_)
          have kz34 := (q_fr.fr (q_fr.sub (F2 := []) (A2 := [(28, 0, 7)]) kz28 (by decide) (by decide)) kf32 (by decide) (by decide))
          have kh35 := kp30.2
          refine lv_icmp_ge (tgt := 65) hx hb dX11_stands_58 (by decide) (fun kc36 => ?_) (fun kc36 => ?_)
          · refine lv_iconst (v := 0) hx hb dX11_stands_65 (by decide) ?_
            refine lv_istore (lv' := [(5, .int 0), (0, .ref a0), (1, .int i1), (2, .int i2), (3, .int kx3), (4, .int kx4)]) hx hb dX11_stands_66 hl (by decide) rfl (fun ls hl => ?_)
            refine lv_iload hx hb dX11_stands_68 (lv_at hl 0 rfl) ?_
            refine lv_if_eq (tgt := 89) hx hb dX11_stands_70 (by decide) (fun kc37 => ?_) (fun kc37 => ?_)
            · obtain ⟨kx38, ekx38⟩ : ∃ y : Int32, y = kx4 + 1 := ⟨_, rfl⟩
              have vkx38 : q_V 1 128 kx38 := by rw [ekx38]; exact (q_add kv8 (q_c (k := 1) (x := 1) (by decide)) (by decide) (by decide)).w (by decide) (by decide)
              have ikx38 : kx38.toInt = kx4.toInt + 1 := q_incT ekx38 kv8 (by decide) (by decide) (by decide)
              refine lv_iinc (v := kx38) (lv' := [(4, .int kx38), (5, .int 0), (0, .ref a0), (1, .int i1), (2, .int i2), (3, .int kx3)]) hx hb dX11_stands_89 hl (k := 5) rfl (by rw [ekx38]; rfl) (by decide) rfl (fun ls hl => ?_)
              refine lv_goto (tgt := 36) hx hb dX11_stands_92 (by decide) ?_
              exact ih36a _ _ _ kv1 kv2 kx3 (kv23.w (by decide) (by decide)) kx38 (vkx38.w (by decide) (by decide)) hW (q_fr.sub kz34 (by decide) (by decide)) (by have := Int32.lt_iff_toInt_lt.mp (Int32.not_le.mp kc6); have : (128 : Int32).toInt = 128 := (by decide); have := mt Int32.toInt_inj.mp kc9; have : ((-1) : Int32).toInt = -1 := (by decide); have := Int32.le_iff_toInt_le.mp kc36; have := Int32.toInt_inj.mpr kc37; have : (0 : Int32).toInt = 0 := (by decide); have : (0 : Int32).toInt = 0 := (by decide); have := kv1.1; have := kv1.2; have := kv2.1; have := kv2.2; have := kv8.1; have := kv8.2; have := kv23.1; have := kv23.2; have := kv23.1; have := kv23.2; have := vkx38.1; have := vkx38.2; have := ikx38; have := iv36a0; have := kh29; have := kp24.1.1; have := kp24.1.2; have := kh35; have := kp30.1.1; have := kp30.1.2; omega) ls (lv_sub hl [2, 3, 4, 5, 0] rfl) (Nat.lt_of_lt_of_le (q_up (ikx38) (show q_V 1 128 kx38 from vkx38).2) (Nat.le_of_lt_succ hm36a))
            · exact q_neq (q_c (k := 0) (x := 0) (by decide)) (q_c (k := 0) (x := 0) (by decide)) kc37
          · have kv39 : q_V 0 62 kx27 := (q_lt1 kp24.1 kp30.1 (Int32.not_le.mp kc36)).w (by decide) (by decide)
            have kv40 : q_V 1 63 kx33 := (q_lt2 kp24.1 kp30.1 (Int32.not_le.mp kc36)).w (by decide) (by decide)
            refine lv_iconst (v := 1) hx hb dX11_stands_61 (by decide) ?_
            refine lv_goto (tgt := 66) hx hb dX11_stands_62 (by decide) ?_
            refine lv_istore (lv' := [(5, .int 1), (0, .ref a0), (1, .int i1), (2, .int i2), (3, .int kx3), (4, .int kx4)]) hx hb dX11_stands_66 hl (by decide) rfl (fun ls hl => ?_)
            refine lv_iload hx hb dX11_stands_68 (lv_at hl 0 rfl) ?_
            refine lv_if_eq (tgt := 89) hx hb dX11_stands_70 (by decide) (fun kc41 => ?_) (fun kc41 => ?_)
            · have kv42 : q_V 1 0 1 := q_eq1 (q_c (k := 1) (x := 1) (by decide)) (q_c (k := 0) (x := 0) (by decide)) kc41 (by decide) (by decide)
              exact (kv42.no (by decide))
            · refine lv_iload_n hx hb dX11_stands_73 rfl (lv_at hl 2 rfl) ?_
              refine lv_aload_n hx hb dX11_stands_74 rfl (lv_at hl 1 rfl) ?_
              refine lv_iload hx hb dX11_stands_75 (lv_at hl 5 rfl) ?_
              refine q_goi hW (q_runV (As := [.int kx4]) (rest := [.int i1]) hE hW (c_X11_readFrom_tz l G ks31 a0 h0 kx4 (q_fr.sub kz34 (by decide) (by decide))) kw_X11_238 (q_recv hE hW h0 rfl q_k11) rfl hl.1 rfl (Nat.le_of_ble_eq_true rfl) dX11_stands_77 ⟨by decide, by decide⟩ ⟨by decide, by decide⟩) (by decide) (fun kx46 ks44 H locs kp43 kf45 hW => ?_)
              have kz47 := (q_fr.fr (q_fr.sub (F2 := []) (A2 := [(28, 0, 7)]) kz34 (by decide) (by decide)) kf45 (by decide) (by decide))
              obtain rfl : (0 : Int32) = kx46 := (q_lit kp43 (by decide)).symm
              refine lv_iconst (v := (-1)) hx hb dX11_stands_80 (by decide) ?_
              refine lv_ixor hx hb dX11_stands_81 ?_
              refine lv_eqi (y := (-1)) (by decide) ?_
              refine lv_iand hx hb dX11_stands_82 ?_
              refine lv_eqi (y := i1) (by simp) ?_
              refine lv_if_ne (tgt := 89) hx hb dX11_stands_83 (by decide) (fun kc48 => ?_) (fun kc48 => ?_)
              · have kv49 : q_V 1 63 i1 := q_ne1 kv1 (q_c (k := 0) (x := 0) (by decide)) kc48 (by decide)
                obtain ⟨kx50, ekx50⟩ : ∃ y : Int32, y = kx4 + 1 := ⟨_, rfl⟩
                have vkx50 : q_V 1 128 kx50 := by rw [ekx50]; exact (q_add kv8 (q_c (k := 1) (x := 1) (by decide)) (by decide) (by decide)).w (by decide) (by decide)
                have ikx50 : kx50.toInt = kx4.toInt + 1 := q_incT ekx50 kv8 (by decide) (by decide) (by decide)
                refine lv_iinc (v := kx50) (lv' := [(4, .int kx50), (5, .int 1), (0, .ref a0), (1, .int i1), (2, .int i2), (3, .int kx3)]) hx hb dX11_stands_89 hl (k := 5) rfl (by rw [ekx50]; rfl) (by decide) rfl (fun ls hl => ?_)
                refine lv_goto (tgt := 36) hx hb dX11_stands_92 (by decide) ?_
                exact ih36a _ _ _ (kv49.w (by decide) (by decide)) kv2 kx3 (kv23.w (by decide) (by decide)) kx50 (vkx50.w (by decide) (by decide)) hW (q_fr.sub kz47 (by decide) (by decide)) (by have := Int32.lt_iff_toInt_lt.mp (Int32.not_le.mp kc6); have : (128 : Int32).toInt = 128 := (by decide); have := mt Int32.toInt_inj.mp kc9; have : ((-1) : Int32).toInt = -1 := (by decide); have := Int32.lt_iff_toInt_lt.mp (Int32.not_le.mp kc36); have := mt Int32.toInt_inj.mp kc41; have : (1 : Int32).toInt = 1 := (by decide); have : (0 : Int32).toInt = 0 := (by decide); have := mt Int32.toInt_inj.mp kc48; have : (0 : Int32).toInt = 0 := (by decide); have := kv49.1; have := kv49.2; have := kv2.1; have := kv2.2; have := kv8.1; have := kv8.2; have := kv23.1; have := kv23.2; have := kv39.1; have := kv39.2; have := kv40.1; have := kv40.2; have := kv23.1; have := kv23.2; have := vkx50.1; have := vkx50.2; have := ikx50; have := iv36a0; have := kh29; have := kv39.1; have := kv39.2; have := kh35; have := kv40.1; have := kv40.2; omega) ls (lv_sub hl [2, 3, 4, 5, 0] rfl) (Nat.lt_of_lt_of_le (q_up (ikx50) (show q_V 1 128 kx50 from vkx50).2) (Nat.le_of_lt_succ hm36a))
              · have kv51 : q_V 0 0 i1 := q_eq1 kv1 (q_c (k := 0) (x := 0) (by decide)) kc48 (by decide) (by decide)
                refine lv_iload hx hb dX11_stands_86 (lv_at hl 5 rfl) ?_
                refine lv_istore_n (lv' := [(3, .int kx4), (5, .int 1), (0, .ref a0), (1, .int i1), (2, .int i2), (4, .int kx4)]) hx hb dX11_stands_88 rfl hl (by decide) rfl (fun ls hl => ?_)
                obtain ⟨kx52, ekx52⟩ : ∃ y : Int32, y = kx4 + 1 := ⟨_, rfl⟩
                have vkx52 : q_V 1 128 kx52 := by rw [ekx52]; exact (q_add kv8 (q_c (k := 1) (x := 1) (by decide)) (by decide) (by decide)).w (by decide) (by decide)
                have ikx52 : kx52.toInt = kx4.toInt + 1 := q_incT ekx52 kv8 (by decide) (by decide) (by decide)
                refine lv_iinc (v := kx52) (lv' := [(4, .int kx52), (3, .int kx4), (5, .int 1), (0, .ref a0), (1, .int i1), (2, .int i2)]) hx hb dX11_stands_89 hl (k := 5) rfl (by rw [ekx52]; rfl) (by decide) rfl (fun ls hl => ?_)
                refine lv_goto (tgt := 36) hx hb dX11_stands_92 (by decide) ?_
                exact ih36a _ _ _ (kv51.w (by decide) (by decide)) kv2 kx4 (kv8.w (by decide) (by decide)) kx52 (vkx52.w (by decide) (by decide)) hW (q_fr.sub kz47 (by decide) (by decide)) (by have := Int32.lt_iff_toInt_lt.mp (Int32.not_le.mp kc6); have : (128 : Int32).toInt = 128 := (by decide); have := mt Int32.toInt_inj.mp kc9; have : ((-1) : Int32).toInt = -1 := (by decide); have := Int32.lt_iff_toInt_lt.mp (Int32.not_le.mp kc36); have := mt Int32.toInt_inj.mp kc41; have : (1 : Int32).toInt = 1 := (by decide); have : (0 : Int32).toInt = 0 := (by decide); have := Int32.toInt_inj.mpr kc48; have : (0 : Int32).toInt = 0 := (by decide); have := kv51.1; have := kv51.2; have := kv2.1; have := kv2.2; have := kv8.1; have := kv8.2; have := kv23.1; have := kv23.2; have := kv39.1; have := kv39.2; have := kv40.1; have := kv40.2; have := kv8.1; have := kv8.2; have := vkx52.1; have := vkx52.2; have := ikx52; have := iv36a0; have := kh29; have := kv39.1; have := kv39.2; have := kh35; have := kv40.1; have := kv40.2; omega) ls (lv_sub hl [3, 4, 5, 1, 0] rfl) (Nat.lt_of_lt_of_le (q_up (ikx52) (show q_V 1 128 kx52 from vkx52).2) (Nat.le_of_lt_succ hm36a))
  refine lv_iload_n hx hb dX11_stands_0 rfl (lv_at hl 1 rfl) ?_
  refine lv_if_lt (tgt := 10) hx hb dX11_stands_1 (by decide) (fun kc53 => ?_) (fun kc53 => ?_)
  · have kv54 : q_V (-2147483648) (-1) i1 := (q_lt1 (q_all i1) (q_c (k := 0) (x := 0) (by decide)) kc53).w (by decide) (by decide)
    refine lv_bipush (v := (-2)) hx hb dX11_stands_10 (by decide) ?_
    exact q_reti hE hr hlocks hW (⟨((q_c (k := (-2)) (x := (-2)) (by decide)).w (by decide) (by decide)), (by have := kv54.1; have := kv54.2; unfold kz_stands; (repeat' split) <;> first | rfl | omega)⟩) dX11_stands_12
  · have kv55 : q_V 0 2147483647 i1 := (q_le2 (q_c (k := 0) (x := 0) (by decide)) (q_all i1) (Int32.not_lt.mp kc53)).w (by decide) (by decide)
    refine lv_iload_n hx hb dX11_stands_4 rfl (lv_at hl 1 rfl) ?_
    refine lv_bipush (v := 64) hx hb dX11_stands_5 (by decide) ?_
    refine lv_icmp_lt (tgt := 13) hx hb dX11_stands_7 (by decide) (fun kc56 => ?_) (fun kc56 => ?_)
    · have kv57 : q_V 0 63 i1 := (q_lt1 kv55 (q_c (k := 64) (x := 64) (by decide)) kc56).w (by decide) (by decide)
      refine lv_iload_n hx hb dX11_stands_13 rfl (lv_at hl 2 rfl) ?_
      refine lv_if_lt (tgt := 23) hx hb dX11_stands_14 (by decide) (fun kc58 => ?_) (fun kc58 => ?_)
      · have kv59 : q_V (-2147483648) (-1) i2 := (q_lt1 (q_all i2) (q_c (k := 0) (x := 0) (by decide)) kc58).w (by decide) (by decide)
        refine lv_bipush (v := (-3)) hx hb dX11_stands_23 (by decide) ?_
        exact q_reti hE hr hlocks hW (⟨((q_c (k := (-3)) (x := (-3)) (by decide)).w (by decide) (by decide)), (by have := kv57.1; have := kv57.2; have := kv59.1; have := kv59.2; unfold kz_stands; (repeat' split) <;> first | rfl | omega)⟩) dX11_stands_25
      · have kv60 : q_V 0 2147483647 i2 := (q_le2 (q_c (k := 0) (x := 0) (by decide)) (q_all i2) (Int32.not_lt.mp kc58)).w (by decide) (by decide)
        refine lv_iload_n hx hb dX11_stands_17 rfl (lv_at hl 2 rfl) ?_
        refine lv_bipush (v := 20) hx hb dX11_stands_18 (by decide) ?_
        refine lv_icmp_le (tgt := 26) hx hb dX11_stands_20 (by decide) (fun kc61 => ?_) (fun kc61 => ?_)
        · have kv62 : q_V 0 20 i2 := (q_le1 kv60 (q_c (k := 20) (x := 20) (by decide)) kc61).w (by decide) (by decide)
          refine lv_aload_n hx hb dX11_stands_26 rfl (lv_at hl 0 rfl) ?_
          refine lv_iload_n hx hb dX11_stands_27 rfl (lv_at hl 2 rfl) ?_
          refine q_gov hW (q_runV (As := [.int i2]) (rest := []) hE hW (c_X11_readAhead_tz l G σ a0 h0 i2 (q_fr.sub hz (by decide) (by decide))) kw_X11_229 (q_recv hE hW h0 rfl q_k11) rfl hl.1 rfl (Nat.le_of_ble_eq_true rfl) dX11_stands_28 ⟨by decide, by decide⟩ ⟨by decide, by decide⟩) (by decide) (fun ks64 H locs kp63 kf65 hW => ?_)
          have kz66 := (q_fr.and (q_fr.fr (q_fr.sub (F2 := []) (A2 := []) hz (by decide) (by decide)) kf65 (by decide) (by decide)) kp63)
          refine lv_iconst (v := (-1)) hx hb dX11_stands_31 (by decide) ?_
          refine lv_istore_n (lv' := [(3, .int (-1)), (0, .ref a0), (1, .int i1), (2, .int i2)]) hx hb dX11_stands_32 rfl hl (by decide) rfl (fun ls hl => ?_)
          refine lv_iconst (v := 0) hx hb dX11_stands_33 (by decide) ?_
          refine lv_istore (lv' := [(4, .int 0), (3, .int (-1)), (0, .ref a0), (1, .int i1), (2, .int i2)]) hx hb dX11_stands_34 hl (by decide) rfl (fun ls hl => ?_)
          exact lp36a _ _ _ _ kv57 kv62 (-1) ((q_c (k := (-1)) (x := (-1)) (by decide)).w (by decide) (by decide)) 0 ((q_c (k := 0) (x := 0) (by decide)).w (by decide) (by decide)) hW (q_fr.sub kz66 (by decide) (by decide)) (by have := Int32.le_iff_toInt_le.mp (Int32.not_lt.mp kc53); have : (0 : Int32).toInt = 0 := (by decide); have := Int32.lt_iff_toInt_lt.mp kc56; have : (64 : Int32).toInt = 64 := (by decide); have := Int32.le_iff_toInt_le.mp (Int32.not_lt.mp kc58); have : (0 : Int32).toInt = 0 := (by decide); have := Int32.le_iff_toInt_le.mp kc61; have : (20 : Int32).toInt = 20 := (by decide); have := kv57.1; have := kv57.2; have := kv62.1; have := kv62.2; have : ((-1) : Int32).toInt = -1 := (by decide); have : (0 : Int32).toInt = 0 := (by decide); omega) ls (lv_sub hl [2, 3, 4, 1, 0] rfl) (Nat.lt_succ_self _)
        · have kv67 : q_V 21 2147483647 i2 := (q_lt2 (q_c (k := 20) (x := 20) (by decide)) kv60 (Int32.not_le.mp kc61)).w (by decide) (by decide)
          refine lv_bipush (v := (-3)) hx hb dX11_stands_23 (by decide) ?_
          exact q_reti hE hr hlocks hW (⟨((q_c (k := (-3)) (x := (-3)) (by decide)).w (by decide) (by decide)), (by have := kv57.1; have := kv57.2; have := kv67.1; have := kv67.2; unfold kz_stands; (repeat' split) <;> first | rfl | omega)⟩) dX11_stands_25
    · have kv68 : q_V 64 2147483647 i1 := (q_le2 (q_c (k := 64) (x := 64) (by decide)) kv55 (Int32.not_lt.mp kc56)).w (by decide) (by decide)
      refine lv_bipush (v := (-2)) hx hb dX11_stands_10 (by decide) ?_
      exact q_reti hE hr hlocks hW (⟨((q_c (k := (-2)) (x := (-2)) (by decide)).w (by decide) (by decide)), (by have := kv68.1; have := kv68.2; unfold kz_stands; (repeat' split) <;> first | rfl | omega)⟩) dX11_stands_12
set_option maxHeartbeats 4000000 in
set_option maxRecDepth 100000 in
theorem c_X12_bits_tz (l : Launch) (G : q_G) (σ : q_S) (i1 : Int32) (hz : q_fr G [] [] σ) : Met l yX12_bits (Cond.code yX12_bits cX12_bits 3 (some .int) :: wsL_law) (q_Rm 1) (q_Pre G σ [.int i1]) (q_Qi G [] σ (fun r σ1 => q_V 0 8 r ∧ (i1.toInt = 0 → r.toInt = 0))) 0 0 (q_N G) := by
  refine q_ofW (ts := []) (by decide) (Nat.le_of_ble_eq_true rfl) ?_
  intro p e s m args below meth c hE hr hlocks hW ls hl
  have hE : q_E G p s m args c cX12_bits 3 RX12 := hE
  have hx := hE.1.1
  have hb := hE.1.2.1
  have hl : lv_has ls 3 [(0, .int i1)] := hl
  have lp4a : ∀ (n4a : Nat) (kx1 : Int32) (vkx1 : q_V 0 8 kx1) (kx2 : Int32) (vkx2 : q_V 0 8 kx2) (iv4a0 : 0 ≤ (kx1 : Int32).toInt ∧ (kx1 : Int32).toInt ≤ (kx2 : Int32).toInt ∧ (i1.toInt = 0 → (kx1 : Int32).toInt = 0)) (ls : Array Slot) (hl : lv_has ls 3 [(0, .int i1), (1, .int kx1), (2, .int kx2)]), (8 - kx2.toInt).toNat < n4a → W p l e (q_Rm 1) s m args below meth c s.heap [] 0 0 (MQ below (q_Qi G [] σ (fun r σ1 => q_V 0 8 r ∧ (i1.toInt = 0 → r.toInt = 0))) args s 0 0 (q_N G)) (F0 m 4 ls []) := by
    intro n4a
    induction n4a with
    | zero => intro _ _ _ _ _ _ _; exact fun h => absurd h (Nat.not_lt_zero _)
    | succ n4a ih4a =>
      intro kx1 vkx1 kx2 vkx2 iv4a0 ls hl hm4a
      refine lv_iload_n hx hb dX12_bits_4 rfl (lv_at hl 2 rfl) ?_
      refine lv_bipush (v := 8) hx hb dX12_bits_5 (by decide) ?_
      refine lv_icmp_ge (tgt := 24) hx hb dX12_bits_7 (by decide) (fun kc3 => ?_) (fun kc3 => ?_)
      · have kv4 : q_V 8 8 kx2 := (q_le2 (q_c (k := 8) (x := 8) (by decide)) vkx2 kc3).w (by decide) (by decide)
        refine lv_iload_n hx hb dX12_bits_24 rfl (lv_at hl 1 rfl) ?_
        exact q_reti hE hr hlocks hW (⟨vkx1, (fun q_h => iv4a0.2.2 q_h)⟩) dX12_bits_25
      · have kv5 : q_V 0 7 kx2 := (q_lt1 vkx2 (q_c (k := 8) (x := 8) (by decide)) (Int32.not_le.mp kc3)).w (by decide) (by decide)
        have kv6 : q_V 0 7 kx1 := ⟨iv4a0.1, Int.le_trans iv4a0.2.1 (show q_V 0 7 kx2 from (kv5.w (by decide) (by decide))).2⟩
        refine lv_iload_n hx hb dX12_bits_10 rfl (lv_at hl 1 rfl) ?_
        refine lv_iload_n hx hb dX12_bits_11 rfl (lv_at hl 0 rfl) ?_
        refine lv_iload_n hx hb dX12_bits_12 rfl (lv_at hl 2 rfl) ?_
        refine lv_ishr hx hb dX12_bits_13 ?_
        refine lv_topi (fun kx7 ekx7 => ?_)
        refine lv_iconst (v := 1) hx hb dX12_bits_14 (by decide) ?_
        refine lv_iand hx hb dX12_bits_15 ?_
        refine lv_topi (fun kx8 ekx8 => ?_)
        have vkx8 : q_V 0 1 kx8 := by rw [ekx8]; exact (q_and1 kx7).w (by decide) (by decide)
        refine lv_iadd hx hb dX12_bits_16 ?_
        refine lv_topi (fun kx9 ekx9 => ?_)
        have vkx9 : q_V 0 8 kx9 := by rw [ekx9]; exact (q_add kv6 vkx8 (by decide) (by decide)).w (by decide) (by decide)
        refine lv_istore_n (lv' := [(1, .int kx9), (0, .int i1), (2, .int kx2)]) hx hb dX12_bits_17 rfl hl (by decide) rfl (fun ls hl => ?_)
        obtain ⟨kx10, ekx10⟩ : ∃ y : Int32, y = kx2 + 1 := ⟨_, rfl⟩
        have vkx10 : q_V 1 8 kx10 := by rw [ekx10]; exact (q_add kv5 (q_c (k := 1) (x := 1) (by decide)) (by decide) (by decide)).w (by decide) (by decide)
        have ikx10 : kx10.toInt = kx2.toInt + 1 := q_incT ekx10 kv5 (by decide) (by decide) (by decide)
        refine lv_iinc (v := kx10) (lv' := [(2, .int kx10), (1, .int kx9), (0, .int i1)]) hx hb dX12_bits_18 hl (k := 2) rfl (by rw [ekx10]; rfl) (by decide) rfl (fun ls hl => ?_)
        refine lv_goto (tgt := 4) hx hb dX12_bits_21 (by decide) ?_
        exact ih4a kx9 vkx9 kx10 (vkx10.w (by decide) (by decide)) (by have q_a := q_addT kv6 vkx8 (by decide) (by decide); rw [← ekx9] at q_a; have q_b := iv4a0; have := vkx8.1; have := vkx8.2; have := ikx10; refine ⟨by omega, by omega, fun q_h => ?_⟩; have q_c : kx8 = 0 := (by rw [ekx8, ekx7, Int32.toInt_inj.mp (q_h.trans (show (0 : Int) = (0 : Int32).toInt by decide))]; simp); have q_d := Int32.toInt_inj.mpr q_c; have q_e : (0 : Int32).toInt = 0 := (by decide); have := q_b.2.2 q_h; omega) ls (lv_sub hl [2, 1, 0] rfl) (Nat.lt_of_lt_of_le (q_up (ikx10) (show q_V 1 8 kx10 from vkx10).2) (Nat.le_of_lt_succ hm4a))
  refine lv_iconst (v := 0) hx hb dX12_bits_0 (by decide) ?_
  refine lv_istore_n (lv' := [(1, .int 0), (0, .int i1)]) hx hb dX12_bits_1 rfl hl (by decide) rfl (fun ls hl => ?_)
  refine lv_iconst (v := 0) hx hb dX12_bits_2 (by decide) ?_
  refine lv_istore_n (lv' := [(2, .int 0), (1, .int 0), (0, .int i1)]) hx hb dX12_bits_3 rfl hl (by decide) rfl (fun ls hl => ?_)
  exact lp4a _ 0 ((q_c (k := 0) (x := 0) (by decide)).w (by decide) (by decide)) 0 ((q_c (k := 0) (x := 0) (by decide)).w (by decide) (by decide)) ⟨by decide, by decide, fun _ => by decide⟩ ls (lv_sub hl [2, 1, 0] rfl) (Nat.lt_succ_self _)
set_option maxHeartbeats 4000000 in
set_option maxRecDepth 100000 in
theorem c_X12_readBy_tz (l : Launch) (G : q_G) (σ : q_S) (a0 : Nat) (h0 : q_T G a0 = 40) (i1 : Int32) (hz : q_fr G [] [(58, 0, 7)] σ) : Met l yX12_readBy (Cond.code yX12_readBy cX12_readBy 4 (some .int) :: wsL_law) (q_Rm 2) (q_Pre G σ [.ref a0, .int i1]) (q_Qi G [] σ (fun r σ1 => q_V 0 0 r)) 0 0 (q_N G) := by
  refine q_ofW (ts := []) (by decide) (Nat.le_of_ble_eq_true rfl) ?_
  intro p e s m args below meth c hE hr hlocks hW ls hl
  have hE : q_E G p s m args c cX12_readBy 4 RX12 := hE
  have hx := hE.1.1
  have hb := hE.1.2.1
  have hl : lv_has ls 4 [(0, .ref a0), (1, .int i1)] := hl
  have lp4a : ∀ (n4a : Nat) (ks2 : q_S) (H : Heap) (locs : List Loc) (kx1 : Int32) (vkx1 : q_V 0 7 kx1) (hW : q_Wd G [] σ s.heap ks2 H locs) (hz4a : q_fr G [] [(58, 0, 7)] ks2) (ls : Array Slot) (hl : lv_has ls 4 [(0, .ref a0), (1, .int i1), (2, .int 0), (3, .int kx1)]), (7 - kx1.toInt).toNat < n4a → W p l e (q_Rm 2) s m args below meth c H locs 0 0 (MQ below (q_Qi G [] σ (fun r σ1 => q_V 0 0 r)) args s 0 0 (q_N G)) (F0 m 4 ls []) := by
    intro n4a
    induction n4a with
    | zero => intro _ _ _ _ _ _ _ _ _; exact fun h => absurd h (Nat.not_lt_zero _)
    | succ n4a ih4a =>
      intro ks2 H locs kx1 vkx1 hW hz4a ls hl hm4a
      have jn29a : ∀ (ks4 : q_S) (H : Heap) (locs : List Loc) (kv3 : q_V 0 6 kx1) (hW : q_Wd G [] σ s.heap ks4 H locs) (hz29a : q_fr G [] [(58, 0, 7)] ks4) (ls : Array Slot) (hl : lv_has ls 4 [(0, .ref a0), (1, .int i1), (3, .int kx1)]), W p l e (q_Rm 2) s m args below meth c H locs 0 0 (MQ below (q_Qi G [] σ (fun r σ1 => q_V 0 0 r)) args s 0 0 (q_N G)) (F0 m 29 ls [.int 0, .int 0]) := by
        intro ks4 H locs kv3 hW hz29a ls hl
        refine lv_ior hx hb dX12_readBy_29 ?_
        refine lv_eqi (y := 0) (by decide) ?_
        refine lv_istore_n (lv' := [(2, .int 0), (0, .ref a0), (1, .int i1), (3, .int kx1)]) hx hb dX12_readBy_30 rfl hl (by decide) rfl (fun ls hl => ?_)
        obtain ⟨kx5, ekx5⟩ : ∃ y : Int32, y = kx1 + 1 := ⟨_, rfl⟩
        have vkx5 : q_V 1 7 kx5 := by rw [ekx5]; exact (q_add kv3 (q_c (k := 1) (x := 1) (by decide)) (by decide) (by decide)).w (by decide) (by decide)
        have ikx5 : kx5.toInt = kx1.toInt + 1 := q_incT ekx5 kv3 (by decide) (by decide) (by decide)
        refine lv_iinc (v := kx5) (lv' := [(3, .int kx5), (2, .int 0), (0, .ref a0), (1, .int i1)]) hx hb dX12_readBy_31 hl (k := 3) rfl (by rw [ekx5]; rfl) (by decide) rfl (fun ls hl => ?_)
        refine lv_goto (tgt := 4) hx hb dX12_readBy_34 (by decide) ?_
        exact ih4a _ _ _ kx5 (vkx5.w (by decide) (by decide)) hW (q_fr.sub hz29a (by decide) (by decide)) ls (lv_sub hl [2, 3, 1, 0] rfl) (Nat.lt_of_lt_of_le (q_up (ikx5) (show q_V 1 7 kx5 from vkx5).2) (Nat.le_of_lt_succ hm4a))
      refine lv_iload_n hx hb dX12_readBy_4 rfl (lv_at hl 3 rfl) ?_
      refine lv_bipush (v := 7) hx hb dX12_readBy_5 (by decide) ?_
      refine lv_icmp_ge (tgt := 37) hx hb dX12_readBy_7 (by decide) (fun kc6 => ?_) (fun kc6 => ?_)
      · have kv7 : q_V 7 7 kx1 := (q_le2 (q_c (k := 7) (x := 7) (by decide)) vkx1 kc6).w (by decide) (by decide)
        refine lv_iload_n hx hb dX12_readBy_37 rfl (lv_at hl 2 rfl) ?_
        exact q_reti hE hr hlocks hW ((q_c (k := 0) (x := 0) (by decide))) dX12_readBy_38
      · have kv8 : q_V 0 6 kx1 := (q_lt1 vkx1 (q_c (k := 7) (x := 7) (by decide)) (Int32.not_le.mp kc6)).w (by decide) (by decide)
        refine lv_iload_n hx hb dX12_readBy_10 rfl (lv_at hl 2 rfl) ?_
        refine lv_iload_n hx hb dX12_readBy_11 rfl (lv_at hl 1 rfl) ?_
        refine lv_iload_n hx hb dX12_readBy_12 rfl (lv_at hl 3 rfl) ?_
        refine q_goi hW (q_runS (As := [.int i1, .int kx1]) (rest := [.int 0]) hE hW (c_X12_isBit l G ks2 i1 kx1) kw_X12_305 rfl hl.1 rfl (Nat.le_of_ble_eq_true rfl) dX12_readBy_13 ⟨by decide, by decide⟩ ⟨by decide, by decide⟩) (by decide) (fun kx12 ks10 H locs kp9 kf11 hW => ?_)
        have kz13 := (q_fr.fr (q_fr.sub (F2 := []) (A2 := [(58, 0, 7)]) hz4a (by decide) (by decide)) kf11 (by decide) (by decide))
        refine lv_if_eq (tgt := 28) hx hb dX12_readBy_16 (by decide) (fun kc14 => ?_) (fun kc14 => ?_)
        · have kv15 : q_V 0 0 kx12 := q_eq1 kp9 (q_c (k := 0) (x := 0) (by decide)) kc14 (by decide) (by decide)
          refine lv_iconst (v := 0) hx hb dX12_readBy_28 (by decide) ?_
          exact jn29a _ _ _ kv8 hW (q_fr.sub kz13 (by decide) (by decide)) ls (lv_sub hl [0, 1, 3] rfl)
        · have kv16 : q_V 1 1 kx12 := q_ne1 kp9 (q_c (k := 0) (x := 0) (by decide)) kc14 (by decide)
          refine lv_aload_n hx hb dX12_readBy_19 rfl (lv_at hl 0 rfl) ?_
          refine q_getr hE hW h0 rfl q_k12 33 (by decide) rfl (hE.l wl_147) dX12_readBy_20 (fun kb17 ekb17 hkb17a hkb17b => ?_)
          have hkb17 : q_T G kb17 = 58 := q_tag hkb17a hkb17b
          refine lv_iload_n hx hb dX12_readBy_23 rfl (lv_at hl 3 rfl) ?_
          refine q_iald hE hW hkb17 rfl (q_in kv8 (by decide) (by decide)) dX12_readBy_24 (fun kx18 ekx18 gkx18 => ?_)
          obtain rfl : (0 : Int32) = kx18 := (q_fr.z kz13 (t := 58) (l := 0) (u := 7) (by decide) hkb17 kv8 (by decide) (by decide) (by decide)).symm.trans ekx18
          refine lv_goto (tgt := 29) hx hb dX12_readBy_25 (by decide) ?_
          exact jn29a _ _ _ kv8 hW (q_fr.sub kz13 (by decide) (by decide)) ls (lv_sub hl [0, 1, 3] rfl)
  refine lv_iconst (v := 0) hx hb dX12_readBy_0 (by decide) ?_
  refine lv_istore_n (lv' := [(2, .int 0), (0, .ref a0), (1, .int i1)]) hx hb dX12_readBy_1 rfl hl (by decide) rfl (fun ls hl => ?_)
  refine lv_iconst (v := 0) hx hb dX12_readBy_2 (by decide) ?_
  refine lv_istore_n (lv' := [(3, .int 0), (2, .int 0), (0, .ref a0), (1, .int i1)]) hx hb dX12_readBy_3 rfl hl (by decide) rfl (fun ls hl => ?_)
  exact lp4a _ _ _ _ 0 ((q_c (k := 0) (x := 0) (by decide)).w (by decide) (by decide)) hW (q_fr.sub hz (by decide) (by decide)) ls (lv_sub hl [2, 3, 1, 0] rfl) (Nat.lt_succ_self _)
set_option maxHeartbeats 4000000 in
set_option maxRecDepth 100000 in
theorem c_X12_stands_tz (l : Launch) (G : q_G) (σ : q_S) (a0 : Nat) (h0 : q_T G a0 = 40) (i1 : Int32) (i2 : Int32) (hz : q_fr G [(40, 0), (40, 5), (40, 8)] [(46, 0, 54), (46, 57, 58), (46, 58, 59), (46, 59, 101), (58, 0, 7)] σ) : Met l yX12_stands (Cond.code yX12_stands cX12_stands 6 (some .int) :: wsL_law) (q_Rm 5) (q_Pre G σ [.ref a0, .int i1, .int i2]) (q_Qi G [46, 58] σ (fun r σ1 => q_V (-2147483648) 2147483647 r ∧ r = kz_stands i1 i2)) 0 0 (q_N G) := by
  refine q_ofW (ts := [46, 58]) (by decide) (Nat.le_of_ble_eq_true rfl) ?_
  intro p e s m args below meth c hE hr hlocks hW ls hl
  have hE : q_E G p s m args c cX12_stands 6 RX12 := hE
  have hx := hE.1.1
  have hb := hE.1.2.1
  have hl : lv_has ls 6 [(0, .ref a0), (1, .int i1), (2, .int i2)] := hl
  have lp133a : ∀ (n133a : Nat) (ks5 : q_S) (H : Heap) (locs : List Loc) (kv1 : q_V 0 63 i1) (kv2 : q_V 0 20 i2) (kx3 : Int32) (vkx3 : q_V (-1) 127 kx3) (kx4 : Int32) (vkx4 : q_V 0 128 kx4) (hW : q_Wd G [46, 58] σ s.heap ks5 H locs) (hz133a : q_fr G [(40, 0), (40, 5), (40, 8)] [(58, 0, 7), (46, 0, 54), (46, 57, 58), (46, 59, 101)] ks5) (iv133a0 : ((kx3 : Int32).toInt = -1 ∧ (i1.toInt ≠ 0 ∨ (kx4 : Int32).toInt = 0)) ∨ ((kx3 : Int32).toInt = 0 ∧ i1.toInt = 0 ∧ 1 ≤ (kx4 : Int32).toInt)) (ls : Array Slot) (hl : lv_has ls 6 [(0, .ref a0), (1, .int i1), (2, .int i2), (3, .int kx3), (4, .int kx4)]), (128 - kx4.toInt).toNat < n133a → W p l e (q_Rm 5) s m args below meth c H locs 0 0 (MQ below (q_Qi G [46, 58] σ (fun r σ1 => q_V (-2147483648) 2147483647 r ∧ r = kz_stands i1 i2)) args s 0 0 (q_N G)) (F0 m 133 ls []) := by
    intro n133a
    induction n133a with
    | zero => intro _ _ _ _ _ _ _ _ _ _ _ _ _ _; exact fun h => absurd h (Nat.not_lt_zero _)
    | succ n133a ih133a =>
      intro ks5 H locs kv1 kv2 kx3 vkx3 kx4 vkx4 hW hz133a iv133a0 ls hl hm133a
      refine lv_iload hx hb dX12_stands_133 (lv_at hl 4 rfl) ?_
      refine lv_sipush (v := 128) hx hb dX12_stands_135 (by decide) ?_
      refine lv_icmp_ge (tgt := 194) hx hb dX12_stands_138 (by decide) (fun kc6 => ?_) (fun kc6 => ?_)
      · have kv7 : q_V 128 128 kx4 := (q_le2 (q_c (k := 128) (x := 128) (by decide)) vkx4 kc6).w (by decide) (by decide)
        refine lv_iload_n hx hb dX12_stands_194 rfl (lv_at hl 3 rfl) ?_
        exact q_reti hE hr hlocks hW (⟨(vkx3.w (by decide) (by decide)), (kst_end iv133a0 (by have := Int32.le_iff_toInt_le.mp kc6; have : (128 : Int32).toInt = 128 := (by decide); have := kv1.1; have := kv1.2; have := kv2.1; have := kv2.2; have := kv7.1; have := kv7.2; omega) (by have := Int32.le_iff_toInt_le.mp kc6; have : (128 : Int32).toInt = 128 := (by decide); have := kv1.1; have := kv1.2; have := kv2.1; have := kv2.2; have := kv7.1; have := kv7.2; omega) (by have := Int32.le_iff_toInt_le.mp kc6; have : (128 : Int32).toInt = 128 := (by decide); have := kv1.1; have := kv1.2; have := kv2.1; have := kv2.2; have := kv7.1; have := kv7.2; omega))⟩) dX12_stands_195
      · have kv8 : q_V 0 127 kx4 := (q_lt1 vkx4 (q_c (k := 128) (x := 128) (by decide)) (Int32.not_le.mp kc6)).w (by decide) (by decide)
        refine lv_iload_n hx hb dX12_stands_141 rfl (lv_at hl 3 rfl) ?_
        refine lv_if_lt (tgt := 157) hx hb dX12_stands_142 (by decide) (fun kc9 => ?_) (fun kc9 => ?_)
        · have kv10 : q_V (-1) (-1) kx3 := (q_lt1 vkx3 (q_c (k := 0) (x := 0) (by decide)) kc9).w (by decide) (by decide)
          refine lv_iconst (v := 1) hx hb dX12_stands_157 (by decide) ?_
          refine lv_goto (tgt := 162) hx hb dX12_stands_158 (by decide) ?_
          refine lv_istore (lv' := [(5, .int 1), (0, .ref a0), (1, .int i1), (2, .int i2), (3, .int kx3), (4, .int kx4)]) hx hb dX12_stands_162 hl (by decide) rfl (fun ls hl => ?_)
          refine lv_iload hx hb dX12_stands_164 (lv_at hl 0 rfl) ?_
          refine lv_if_eq (tgt := 186) hx hb dX12_stands_166 (by decide) (fun kc11 => ?_) (fun kc11 => ?_)
          · have kv12 : q_V 1 0 1 := q_eq1 (q_c (k := 1) (x := 1) (by decide)) (q_c (k := 0) (x := 0) (by decide)) kc11 (by decide) (by decide)
            exact (kv12.no (by decide))
          · refine lv_aload_n hx hb dX12_stands_169 rfl (lv_at hl 1 rfl) ?_
            refine lv_iload hx hb dX12_stands_170 (lv_at hl 5 rfl) ?_
            refine q_goi hW (q_runV (As := [.int kx4]) (rest := []) hE hW (c_X12_readBy_tz l G ks5 a0 h0 kx4 (q_fr.sub hz133a (by decide) (by decide))) kw_X12_313 (q_recv hE hW h0 rfl q_k12) rfl hl.1 rfl (Nat.le_of_ble_eq_true rfl) dX12_stands_172 ⟨by decide, by decide⟩ ⟨by decide, by decide⟩) (by decide) (fun kx16 ks14 H locs kp13 kf15 hW => ?_)
            have kz17 := (q_fr.fr (q_fr.sub (F2 := [(40, 0), (40, 5), (40, 8)]) (A2 := [(58, 0, 7), (46, 0, 54), (46, 57, 58), (46, 59, 101)]) hz133a (by decide) (by decide)) kf15 (by decide) (by decide))
            obtain rfl : (0 : Int32) = kx16 := (q_lit kp13 (by decide)).symm
            refine lv_iload_n hx hb dX12_stands_175 rfl (lv_at hl 2 rfl) ?_
            refine lv_iand hx hb dX12_stands_176 ?_
            refine lv_eqi (y := 0) (by simp) ?_
            refine lv_iload_n hx hb dX12_stands_177 rfl (lv_at hl 2 rfl) ?_
            refine lv_icmp_ne (tgt := 186) hx hb dX12_stands_178 (by decide) (fun kc18 => ?_) (fun kc18 => ?_)
            · refine lv_iload_n hx hb dX12_stands_186 rfl (lv_at hl 4 rfl) ?_
              refine lv_istore_n (lv' := [(3, .int kx3), (5, .int 1), (0, .ref a0), (1, .int i1), (2, .int i2), (4, .int kx4)]) hx hb dX12_stands_187 rfl hl (by decide) rfl (fun ls hl => ?_)
              obtain ⟨kx19, ekx19⟩ : ∃ y : Int32, y = kx4 + 1 := ⟨_, rfl⟩
              have vkx19 : q_V 1 128 kx19 := by rw [ekx19]; exact (q_add kv8 (q_c (k := 1) (x := 1) (by decide)) (by decide) (by decide)).w (by decide) (by decide)
              have ikx19 : kx19.toInt = kx4.toInt + 1 := q_incT ekx19 kv8 (by decide) (by decide) (by decide)
              refine lv_iinc (v := kx19) (lv' := [(4, .int kx19), (3, .int kx3), (5, .int 1), (0, .ref a0), (1, .int i1), (2, .int i2)]) hx hb dX12_stands_188 hl (k := 5) rfl (by rw [ekx19]; rfl) (by decide) rfl (fun ls hl => ?_)
              refine lv_goto (tgt := 133) hx hb dX12_stands_191 (by decide) ?_
              exact ih133a _ _ _ kv1 kv2 kx3 (kv10.w (by decide) (by decide)) kx19 (vkx19.w (by decide) (by decide)) hW (q_fr.sub kz17 (by decide) (by decide)) (by have := Int32.lt_iff_toInt_lt.mp (Int32.not_le.mp kc6); have : (128 : Int32).toInt = 128 := (by decide); have := Int32.lt_iff_toInt_lt.mp kc9; have : (0 : Int32).toInt = 0 := (by decide); have := mt Int32.toInt_inj.mp kc11; have : (1 : Int32).toInt = 1 := (by decide); have : (0 : Int32).toInt = 0 := (by decide); have := mt Int32.toInt_inj.mp kc18; have : (0 : Int32).toInt = 0 := (by decide); have := kv1.1; have := kv1.2; have := kv2.1; have := kv2.2; have := kv8.1; have := kv8.2; have := kv10.1; have := kv10.2; have := kv10.1; have := kv10.2; have := vkx19.1; have := vkx19.2; have := ikx19; have := iv133a0; omega) ls (lv_sub hl [3, 4, 5, 1, 0] rfl) (Nat.lt_of_lt_of_le (q_up (ikx19) (show q_V 1 128 kx19 from vkx19).2) (Nat.le_of_lt_succ hm133a))
            · have kv20 : q_V 0 0 i1 := q_eq2 (q_c (k := 0) (x := 0) (by decide)) kv1 kc18 (by decide) (by decide)
              refine lv_iload hx hb dX12_stands_181 (lv_at hl 5 rfl) ?_
              refine lv_goto (tgt := 187) hx hb dX12_stands_183 (by decide) ?_
              refine lv_istore_n (lv' := [(3, .int kx4), (5, .int 1), (0, .ref a0), (1, .int i1), (2, .int i2), (4, .int kx4)]) hx hb dX12_stands_187 rfl hl (by decide) rfl (fun ls hl => ?_)
              obtain ⟨kx21, ekx21⟩ : ∃ y : Int32, y = kx4 + 1 := ⟨_, rfl⟩
              have vkx21 : q_V 1 128 kx21 := by rw [ekx21]; exact (q_add kv8 (q_c (k := 1) (x := 1) (by decide)) (by decide) (by decide)).w (by decide) (by decide)
              have ikx21 : kx21.toInt = kx4.toInt + 1 := q_incT ekx21 kv8 (by decide) (by decide) (by decide)
              refine lv_iinc (v := kx21) (lv' := [(4, .int kx21), (3, .int kx4), (5, .int 1), (0, .ref a0), (1, .int i1), (2, .int i2)]) hx hb dX12_stands_188 hl (k := 5) rfl (by rw [ekx21]; rfl) (by decide) rfl (fun ls hl => ?_)
              refine lv_goto (tgt := 133) hx hb dX12_stands_191 (by decide) ?_
              exact ih133a _ _ _ (kv20.w (by decide) (by decide)) kv2 kx4 (kv8.w (by decide) (by decide)) kx21 (vkx21.w (by decide) (by decide)) hW (q_fr.sub kz17 (by decide) (by decide)) (by have := Int32.lt_iff_toInt_lt.mp (Int32.not_le.mp kc6); have : (128 : Int32).toInt = 128 := (by decide); have := Int32.lt_iff_toInt_lt.mp kc9; have : (0 : Int32).toInt = 0 := (by decide); have := mt Int32.toInt_inj.mp kc11; have : (1 : Int32).toInt = 1 := (by decide); have : (0 : Int32).toInt = 0 := (by decide); have := Int32.toInt_inj.mpr kc18; have : (0 : Int32).toInt = 0 := (by decide); have := kv20.1; have := kv20.2; have := kv2.1; have := kv2.2; have := kv8.1; have := kv8.2; have := kv10.1; have := kv10.2; have := kv8.1; have := kv8.2; have := vkx21.1; have := vkx21.2; have := ikx21; have := iv133a0; omega) ls (lv_sub hl [3, 4, 5, 1, 0] rfl) (Nat.lt_of_lt_of_le (q_up (ikx21) (show q_V 1 128 kx21 from vkx21).2) (Nat.le_of_lt_succ hm133a))
        · have kv22 : q_V 0 127 kx3 := (q_le2 (q_c (k := 0) (x := 0) (by decide)) vkx3 (Int32.not_lt.mp kc9)).w (by decide) (by decide)
          refine lv_iload hx hb dX12_stands_145 (lv_at hl 4 rfl) ?_
          refine q_goi hW (q_runS (As := [.int kx4]) (rest := []) hE hW (c_X12_bits_tz l G ks5 kx4 (q_fr.sub hz133a (by decide) (by decide))) kw_X12_310 rfl hl.1 rfl (Nat.le_of_ble_eq_true rfl) dX12_stands_147 ⟨by decide, by decide⟩ ⟨by decide, by decide⟩) (by decide) (fun kx26 ks24 H locs kp23 kf25 hW => ?_)
          have kz27 := (q_fr.fr (q_fr.sub (F2 := [(40, 0), (40, 5), (40, 8)]) (A2 := [(58, 0, 7), (46, 0, 54), (46, 57, 58), (46, 59, 101)]) hz133a (by decide) (by decide)) kf25 (by decide) (by decide))
          have kh28 := kp23.2
          refine lv_iload_n hx hb dX12_stands_150 rfl (lv_at hl 3 rfl) ?_
          refine q_goi hW (q_runS (As := [.int kx3]) (rest := [.int kx26]) hE hW (c_X12_bits_tz l G ks24 kx3 (q_fr.sub kz27 (by decide) (by decide))) kw_X12_310 rfl hl.1 rfl (Nat.le_of_ble_eq_true rfl) dX12_stands_151 ⟨by decide, by decide⟩ ⟨by decide, by decide⟩) (by decide) (fun kx32 ks30 H locs kp29 kf31 hW => ?_)
          have kz33 := (q_fr.fr (q_fr.sub (F2 := [(40, 0), (40, 5), (40, 8)]) (A2 := [(58, 0, 7), (46, 0, 54), (46, 57, 58), (46, 59, 101)]) kz27 (by decide) (by decide)) kf31 (by decide) (by decide))
          have kh34 := kp29.2
          refine lv_icmp_ge (tgt := 161) hx hb dX12_stands_154 (by decide) (fun kc35 => ?_) (fun kc35 => ?_)
          · refine lv_iconst (v := 0) hx hb dX12_stands_161 (by decide) ?_
            refine lv_istore (lv' := [(5, .int 0), (0, .ref a0), (1, .int i1), (2, .int i2), (3, .int kx3), (4, .int kx4)]) hx hb dX12_stands_162 hl (by decide) rfl (fun ls hl => ?_)
            refine lv_iload hx hb dX12_stands_164 (lv_at hl 0 rfl) ?_
            refine lv_if_eq (tgt := 186) hx hb dX12_stands_166 (by decide) (fun kc36 => ?_) (fun kc36 => ?_)
            · refine lv_iload_n hx hb dX12_stands_186 rfl (lv_at hl 4 rfl) ?_
              refine lv_istore_n (lv' := [(3, .int kx3), (5, .int 0), (0, .ref a0), (1, .int i1), (2, .int i2), (4, .int kx4)]) hx hb dX12_stands_187 rfl hl (by decide) rfl (fun ls hl => ?_)
              obtain ⟨kx37, ekx37⟩ : ∃ y : Int32, y = kx4 + 1 := ⟨_, rfl⟩
              have vkx37 : q_V 1 128 kx37 := by rw [ekx37]; exact (q_add kv8 (q_c (k := 1) (x := 1) (by decide)) (by decide) (by decide)).w (by decide) (by decide)
              have ikx37 : kx37.toInt = kx4.toInt + 1 := q_incT ekx37 kv8 (by decide) (by decide) (by decide)
              refine lv_iinc (v := kx37) (lv' := [(4, .int kx37), (3, .int kx3), (5, .int 0), (0, .ref a0), (1, .int i1), (2, .int i2)]) hx hb dX12_stands_188 hl (k := 5) rfl (by rw [ekx37]; rfl) (by decide) rfl (fun ls hl => ?_)
              refine lv_goto (tgt := 133) hx hb dX12_stands_191 (by decide) ?_
              exact ih133a _ _ _ kv1 kv2 kx3 (kv22.w (by decide) (by decide)) kx37 (vkx37.w (by decide) (by decide)) hW (q_fr.sub kz33 (by decide) (by decide)) (by have := Int32.lt_iff_toInt_lt.mp (Int32.not_le.mp kc6); have : (128 : Int32).toInt = 128 := (by decide); have := Int32.le_iff_toInt_le.mp (Int32.not_lt.mp kc9); have : (0 : Int32).toInt = 0 := (by decide); have := Int32.le_iff_toInt_le.mp kc35; have := Int32.toInt_inj.mpr kc36; have : (0 : Int32).toInt = 0 := (by decide); have : (0 : Int32).toInt = 0 := (by decide); have := kv1.1; have := kv1.2; have := kv2.1; have := kv2.2; have := kv8.1; have := kv8.2; have := kv22.1; have := kv22.2; have := kv22.1; have := kv22.2; have := vkx37.1; have := vkx37.2; have := ikx37; have := iv133a0; have := kh28; have := kp23.1.1; have := kp23.1.2; have := kh34; have := kp29.1.1; have := kp29.1.2; omega) ls (lv_sub hl [3, 4, 5, 1, 0] rfl) (Nat.lt_of_lt_of_le (q_up (ikx37) (show q_V 1 128 kx37 from vkx37).2) (Nat.le_of_lt_succ hm133a))
            · exact q_neq (q_c (k := 0) (x := 0) (by decide)) (q_c (k := 0) (x := 0) (by decide)) kc36
          · have kv38 : q_V 0 7 kx26 := (q_lt1 kp23.1 kp29.1 (Int32.not_le.mp kc35)).w (by decide) (by decide)
            have kv39 : q_V 1 8 kx32 := (q_lt2 kp23.1 kp29.1 (Int32.not_le.mp kc35)).w (by decide) (by decide)
            refine lv_iconst (v := 1) hx hb dX12_stands_157 (by decide) ?_
            refine lv_goto (tgt := 162) hx hb dX12_stands_158 (by decide) ?_
            refine lv_istore (lv' := [(5, .int 1), (0, .ref a0), (1, .int i1), (2, .int i2), (3, .int kx3), (4, .int kx4)]) hx hb dX12_stands_162 hl (by decide) rfl (fun ls hl => ?_)
            refine lv_iload hx hb dX12_stands_164 (lv_at hl 0 rfl) ?_
            refine lv_if_eq (tgt := 186) hx hb dX12_stands_166 (by decide) (fun kc40 => ?_) (fun kc40 => ?_)
            · have kv41 : q_V 1 0 1 := q_eq1 (q_c (k := 1) (x := 1) (by decide)) (q_c (k := 0) (x := 0) (by decide)) kc40 (by decide) (by decide)
              exact (kv41.no (by decide))
            · refine lv_aload_n hx hb dX12_stands_169 rfl (lv_at hl 1 rfl) ?_
              refine lv_iload hx hb dX12_stands_170 (lv_at hl 5 rfl) ?_
              refine q_goi hW (q_runV (As := [.int kx4]) (rest := []) hE hW (c_X12_readBy_tz l G ks30 a0 h0 kx4 (q_fr.sub kz33 (by decide) (by decide))) kw_X12_313 (q_recv hE hW h0 rfl q_k12) rfl hl.1 rfl (Nat.le_of_ble_eq_true rfl) dX12_stands_172 ⟨by decide, by decide⟩ ⟨by decide, by decide⟩) (by decide) (fun kx45 ks43 H locs kp42 kf44 hW => ?_)
              have kz46 := (q_fr.fr (q_fr.sub (F2 := [(40, 0), (40, 5), (40, 8)]) (A2 := [(58, 0, 7), (46, 0, 54), (46, 57, 58), (46, 59, 101)]) kz33 (by decide) (by decide)) kf44 (by decide) (by decide))
              obtain rfl : (0 : Int32) = kx45 := (q_lit kp42 (by decide)).symm
              refine lv_iload_n hx hb dX12_stands_175 rfl (lv_at hl 2 rfl) ?_
              refine lv_iand hx hb dX12_stands_176 ?_
              refine lv_eqi (y := 0) (by simp) ?_
              refine lv_iload_n hx hb dX12_stands_177 rfl (lv_at hl 2 rfl) ?_
              refine lv_icmp_ne (tgt := 186) hx hb dX12_stands_178 (by decide) (fun kc47 => ?_) (fun kc47 => ?_)
              · refine lv_iload_n hx hb dX12_stands_186 rfl (lv_at hl 4 rfl) ?_
                refine lv_istore_n (lv' := [(3, .int kx3), (5, .int 1), (0, .ref a0), (1, .int i1), (2, .int i2), (4, .int kx4)]) hx hb dX12_stands_187 rfl hl (by decide) rfl (fun ls hl => ?_)
                obtain ⟨kx48, ekx48⟩ : ∃ y : Int32, y = kx4 + 1 := ⟨_, rfl⟩
                have vkx48 : q_V 1 128 kx48 := by rw [ekx48]; exact (q_add kv8 (q_c (k := 1) (x := 1) (by decide)) (by decide) (by decide)).w (by decide) (by decide)
                have ikx48 : kx48.toInt = kx4.toInt + 1 := q_incT ekx48 kv8 (by decide) (by decide) (by decide)
                refine lv_iinc (v := kx48) (lv' := [(4, .int kx48), (3, .int kx3), (5, .int 1), (0, .ref a0), (1, .int i1), (2, .int i2)]) hx hb dX12_stands_188 hl (k := 5) rfl (by rw [ekx48]; rfl) (by decide) rfl (fun ls hl => ?_)
                refine lv_goto (tgt := 133) hx hb dX12_stands_191 (by decide) ?_
                exact ih133a _ _ _ kv1 kv2 kx3 (kv22.w (by decide) (by decide)) kx48 (vkx48.w (by decide) (by decide)) hW (q_fr.sub kz46 (by decide) (by decide)) (by have := Int32.lt_iff_toInt_lt.mp (Int32.not_le.mp kc6); have : (128 : Int32).toInt = 128 := (by decide); have := Int32.le_iff_toInt_le.mp (Int32.not_lt.mp kc9); have : (0 : Int32).toInt = 0 := (by decide); have := Int32.lt_iff_toInt_lt.mp (Int32.not_le.mp kc35); have := mt Int32.toInt_inj.mp kc40; have : (1 : Int32).toInt = 1 := (by decide); have : (0 : Int32).toInt = 0 := (by decide); have := mt Int32.toInt_inj.mp kc47; have : (0 : Int32).toInt = 0 := (by decide); have := kv1.1; have := kv1.2; have := kv2.1; have := kv2.2; have := kv8.1; have := kv8.2; have := kv22.1; have := kv22.2; have := kv38.1; have := kv38.2; have := kv39.1; have := kv39.2; have := kv22.1; have := kv22.2; have := vkx48.1; have := vkx48.2; have := ikx48; have := iv133a0; have := kh28; have := kv38.1; have := kv38.2; have := kh34; have := kv39.1; have := kv39.2; omega) ls (lv_sub hl [3, 4, 5, 1, 0] rfl) (Nat.lt_of_lt_of_le (q_up (ikx48) (show q_V 1 128 kx48 from vkx48).2) (Nat.le_of_lt_succ hm133a))
              · have kv49 : q_V 0 0 i1 := q_eq2 (q_c (k := 0) (x := 0) (by decide)) kv1 kc47 (by decide) (by decide)
                refine lv_iload hx hb dX12_stands_181 (lv_at hl 5 rfl) ?_
                refine lv_goto (tgt := 187) hx hb dX12_stands_183 (by decide) ?_
                refine lv_istore_n (lv' := [(3, .int kx4), (5, .int 1), (0, .ref a0), (1, .int i1), (2, .int i2), (4, .int kx4)]) hx hb dX12_stands_187 rfl hl (by decide) rfl (fun ls hl => ?_)
                obtain ⟨kx50, ekx50⟩ : ∃ y : Int32, y = kx4 + 1 := ⟨_, rfl⟩
                have vkx50 : q_V 1 128 kx50 := by rw [ekx50]; exact (q_add kv8 (q_c (k := 1) (x := 1) (by decide)) (by decide) (by decide)).w (by decide) (by decide)
                have ikx50 : kx50.toInt = kx4.toInt + 1 := q_incT ekx50 kv8 (by decide) (by decide) (by decide)
                refine lv_iinc (v := kx50) (lv' := [(4, .int kx50), (3, .int kx4), (5, .int 1), (0, .ref a0), (1, .int i1), (2, .int i2)]) hx hb dX12_stands_188 hl (k := 5) rfl (by rw [ekx50]; rfl) (by decide) rfl (fun ls hl => ?_)
                refine lv_goto (tgt := 133) hx hb dX12_stands_191 (by decide) ?_
                exact ih133a _ _ _ (kv49.w (by decide) (by decide)) kv2 kx4 (kv8.w (by decide) (by decide)) kx50 (vkx50.w (by decide) (by decide)) hW (q_fr.sub kz46 (by decide) (by decide)) (by have := Int32.lt_iff_toInt_lt.mp (Int32.not_le.mp kc6); have : (128 : Int32).toInt = 128 := (by decide); have := Int32.le_iff_toInt_le.mp (Int32.not_lt.mp kc9); have : (0 : Int32).toInt = 0 := (by decide); have := Int32.lt_iff_toInt_lt.mp (Int32.not_le.mp kc35); have := mt Int32.toInt_inj.mp kc40; have : (1 : Int32).toInt = 1 := (by decide); have : (0 : Int32).toInt = 0 := (by decide); have := Int32.toInt_inj.mpr kc47; have : (0 : Int32).toInt = 0 := (by decide); have := kv49.1; have := kv49.2; have := kv2.1; have := kv2.2; have := kv8.1; have := kv8.2; have := kv22.1; have := kv22.2; have := kv38.1; have := kv38.2; have := kv39.1; have := kv39.2; have := kv8.1; have := kv8.2; have := vkx50.1; have := vkx50.2; have := ikx50; have := iv133a0; have := kh28; have := kv38.1; have := kv38.2; have := kh34; have := kv39.1; have := kv39.2; omega) ls (lv_sub hl [3, 4, 5, 1, 0] rfl) (Nat.lt_of_lt_of_le (q_up (ikx50) (show q_V 1 128 kx50 from vkx50).2) (Nat.le_of_lt_succ hm133a))
  have lp69a : ∀ (n69a : Nat) (ks54 : q_S) (H : Heap) (locs : List Loc) (kv51 : q_V 0 63 i1) (kv52 : q_V 0 20 i2) (kx53 : Int32) (vkx53 : q_V 0 20 kx53) (hW : q_Wd G [46, 58] σ s.heap ks54 H locs) (hz69a : q_fr G [(40, 0), (40, 5), (40, 8)] [(58, 0, 7), (46, 0, 54), (46, 57, 58), (46, 59, 101)] ks54) (ls : Array Slot) (hl : lv_has ls 6 [(0, .ref a0), (1, .int i1), (2, .int i2), (3, .int kx53)]), (20 - kx53.toInt).toNat < n69a → W p l e (q_Rm 5) s m args below meth c H locs 0 0 (MQ below (q_Qi G [46, 58] σ (fun r σ1 => q_V (-2147483648) 2147483647 r ∧ r = kz_stands i1 i2)) args s 0 0 (q_N G)) (F0 m 69 ls []) := by
    intro n69a
    induction n69a with
    | zero => intro _ _ _ _ _ _ _ _ _ _ _; exact fun h => absurd h (Nat.not_lt_zero _)
    | succ n69a ih69a =>
      intro ks54 H locs kv51 kv52 kx53 vkx53 hW hz69a ls hl hm69a
      have lp81a : ∀ (n81a : Nat) (ks58 : q_S) (H : Heap) (locs : List Loc) (kv55 : q_V 1 20 i2) (kv56 : q_V 0 19 kx53) (kx57 : Int32) (vkx57 : q_V 0 7 kx57) (hW : q_Wd G [46, 58] σ s.heap ks58 H locs) (hz81a : q_fr G [(40, 0), (40, 5), (40, 8)] [(58, 0, 7), (46, 0, 54), (46, 57, 58), (46, 59, 101)] ks58) (ls : Array Slot) (hl : lv_has ls 6 [(0, .ref a0), (1, .int i1), (2, .int i2), (3, .int kx53), (4, .int kx57)]), (7 - kx57.toInt).toNat < n81a → W p l e (q_Rm 5) s m args below meth c H locs 0 0 (MQ below (q_Qi G [46, 58] σ (fun r σ1 => q_V (-2147483648) 2147483647 r ∧ r = kz_stands i1 i2)) args s 0 0 (q_N G)) (F0 m 81 ls []) := by
        intro n81a
        induction n81a with
        | zero => intro _ _ _ _ _ _ _ _ _ _ _; exact fun h => absurd h (Nat.not_lt_zero _)
        | succ n81a ih81a =>
          intro ks58 H locs kv55 kv56 kx57 vkx57 hW hz81a ls hl hm81a
          refine lv_iload hx hb dX12_stands_81 (lv_at hl 4 rfl) ?_
          refine lv_bipush (v := 7) hx hb dX12_stands_83 (by decide) ?_
          refine lv_icmp_ge (tgt := 110) hx hb dX12_stands_85 (by decide) (fun kc59 => ?_) (fun kc59 => ?_)
          · have kv60 : q_V 7 7 kx57 := (q_le2 (q_c (k := 7) (x := 7) (by decide)) vkx57 kc59).w (by decide) (by decide)
            obtain ⟨kx61, ekx61⟩ : ∃ y : Int32, y = kx53 + 1 := ⟨_, rfl⟩
            have vkx61 : q_V 1 20 kx61 := by rw [ekx61]; exact (q_add kv56 (q_c (k := 1) (x := 1) (by decide)) (by decide) (by decide)).w (by decide) (by decide)
            have ikx61 : kx61.toInt = kx53.toInt + 1 := q_incT ekx61 kv56 (by decide) (by decide) (by decide)
            refine lv_iinc (v := kx61) (lv' := [(3, .int kx61), (0, .ref a0), (1, .int i1), (2, .int i2), (4, .int kx57)]) hx hb dX12_stands_110 hl (k := 3) rfl (by rw [ekx61]; rfl) (by decide) rfl (fun ls hl => ?_)
            refine lv_goto (tgt := 69) hx hb dX12_stands_113 (by decide) ?_
            exact ih69a _ _ _ kv51 (kv55.w (by decide) (by decide)) kx61 (vkx61.w (by decide) (by decide)) hW (q_fr.sub hz81a (by decide) (by decide)) ls (lv_sub hl [1, 2, 3, 0] rfl) (Nat.lt_of_lt_of_le (q_up (ikx61) (show q_V 1 20 kx61 from vkx61).2) (Nat.le_of_lt_succ hm69a))
          · have kv62 : q_V 0 6 kx57 := (q_lt1 vkx57 (q_c (k := 7) (x := 7) (by decide)) (Int32.not_le.mp kc59)).w (by decide) (by decide)
            refine lv_aload_n hx hb dX12_stands_88 rfl (lv_at hl 0 rfl) ?_
            refine q_getr hE hW h0 rfl q_k12 33 (by decide) rfl (hE.l wl_147) dX12_stands_89 (fun kb63 ekb63 hkb63a hkb63b => ?_)
            have hkb63 : q_T G kb63 = 58 := q_tag hkb63a hkb63b
            refine lv_iload hx hb dX12_stands_92 (lv_at hl 4 rfl) ?_
            refine lv_dup2_11 hx hb dX12_stands_94 rfl rfl ?_
            refine q_iald hE hW hkb63 rfl (q_in kv62 (by decide) (by decide)) dX12_stands_95 (fun kx64 ekx64 gkx64 => ?_)
            obtain rfl : (0 : Int32) = kx64 := (q_fr.z hz81a (t := 58) (l := 0) (u := 7) (by decide) hkb63 kv62 (by decide) (by decide) (by decide)).symm.trans ekx64
            refine lv_aload_n hx hb dX12_stands_96 rfl (lv_at hl 0 rfl) ?_
            refine lv_iload hx hb dX12_stands_97 (lv_at hl 4 rfl) ?_
            refine q_goi hW (q_runV (As := [.int kx57]) (rest := [.int 0, .int kx57, .ref kb63]) hE hW (c_X12_readAt_tz l G ks58 a0 h0 kx57 kv62 (q_fr.sub hz81a (by decide) (by decide))) kw_X12_302 (q_recv hE hW h0 rfl q_k12) rfl hl.1 rfl (Nat.le_of_ble_eq_true rfl) dX12_stands_99 ⟨by decide, by decide⟩ ⟨by decide, by decide⟩) (by decide) (fun kx68 ks66 H locs kp65 kf67 hW => ?_)
            have kz69 := (q_fr.fr (q_fr.sub (F2 := [(40, 0), (40, 5), (40, 8)]) (A2 := [(58, 0, 7), (46, 0, 54), (46, 57, 58), (46, 59, 101)]) hz81a (by decide) (by decide)) kf67 (by decide) (by decide))
            obtain rfl : (0 : Int32) = kx68 := (q_lit kp65 (by decide)).symm
            refine lv_ior hx hb dX12_stands_102 ?_
            refine lv_eqi (y := 0) (by decide) ?_
            refine q_iast hE hW hkb63 rfl (q_in kv62 (by decide) (by decide)) trivial (by decide) dX12_stands_103 (fun H locs ks70 kp71 hW => ?_)
            have kz72 := (q_fr.wA0 kz69 kp71 hkb63 rfl)
            obtain ⟨kx73, ekx73⟩ : ∃ y : Int32, y = kx57 + 1 := ⟨_, rfl⟩
            have vkx73 : q_V 1 7 kx73 := by rw [ekx73]; exact (q_add kv62 (q_c (k := 1) (x := 1) (by decide)) (by decide) (by decide)).w (by decide) (by decide)
            have ikx73 : kx73.toInt = kx57.toInt + 1 := q_incT ekx73 kv62 (by decide) (by decide) (by decide)
            refine lv_iinc (v := kx73) (lv' := [(4, .int kx73), (0, .ref a0), (1, .int i1), (2, .int i2), (3, .int kx53)]) hx hb dX12_stands_104 hl (k := 4) rfl (by rw [ekx73]; rfl) (by decide) rfl (fun ls hl => ?_)
            refine lv_goto (tgt := 81) hx hb dX12_stands_107 (by decide) ?_
            exact ih81a _ _ _ kv55 kv56 kx73 (vkx73.w (by decide) (by decide)) hW (q_fr.sub kz72 (by decide) (by decide)) ls (lv_sub hl [1, 2, 3, 4, 0] rfl) (Nat.lt_of_lt_of_le (q_up (ikx73) (show q_V 1 7 kx73 from vkx73).2) (Nat.le_of_lt_succ hm81a))
      refine lv_iload_n hx hb dX12_stands_69 rfl (lv_at hl 3 rfl) ?_
      refine lv_iload_n hx hb dX12_stands_70 rfl (lv_at hl 2 rfl) ?_
      refine lv_icmp_ge (tgt := 116) hx hb dX12_stands_71 (by decide) (fun kc74 => ?_) (fun kc74 => ?_)
      · refine lv_aload_n hx hb dX12_stands_116 rfl (lv_at hl 0 rfl) ?_
        refine lv_aload_n hx hb dX12_stands_117 rfl (lv_at hl 0 rfl) ?_
        refine q_getr hE hW h0 rfl q_k12 32 (by decide) rfl (hE.l wl_146) dX12_stands_118 (fun kb75 ekb75 hkb75a hkb75b => ?_)
        have hkb75 : q_T G kb75 = 46 := q_tag hkb75a hkb75b
        refine lv_aload_n hx hb dX12_stands_121 rfl (lv_at hl 0 rfl) ?_
        refine q_getr hE hW h0 rfl q_k12 9 (by decide) rfl (hE.l wl_135) dX12_stands_122 (fun kb76 ekb76 hkb76a hkb76b => ?_)
        have hkb76 : q_T G kb76 = 46 := q_tag hkb76a hkb76b
        refine q_gov hW (q_runV (As := [.ref kb75, .ref kb76]) (rest := []) hE hW (c_X12_copyRow_tz l G ks54 a0 h0 kb75 hkb75 kb76 hkb76 (q_fr.sub hz69a (by decide) (by decide))) kw_X12_298 (q_recv hE hW h0 rfl q_k12) rfl hl.1 rfl (Nat.le_of_ble_eq_true rfl) dX12_stands_125 ⟨by decide, by decide⟩ ⟨by decide, by decide⟩) (by decide) (fun ks78 H locs kp77 kf79 hW => ?_)
        have kz80 := (q_fr.and (q_fr.fr (q_fr.sub (F2 := [(40, 0), (40, 5), (40, 8)]) (A2 := [(58, 0, 7)]) hz69a (by decide) (by decide)) kf79 (by decide) (by decide)) kp77)
        refine lv_iconst (v := (-1)) hx hb dX12_stands_128 (by decide) ?_
        refine lv_istore_n (lv' := [(3, .int (-1)), (0, .ref a0), (1, .int i1), (2, .int i2)]) hx hb dX12_stands_129 rfl hl (by decide) rfl (fun ls hl => ?_)
        refine lv_iconst (v := 0) hx hb dX12_stands_130 (by decide) ?_
        refine lv_istore (lv' := [(4, .int 0), (3, .int (-1)), (0, .ref a0), (1, .int i1), (2, .int i2)]) hx hb dX12_stands_131 hl (by decide) rfl (fun ls hl => ?_)
        exact lp133a _ _ _ _ kv51 kv52 (-1) ((q_c (k := (-1)) (x := (-1)) (by decide)).w (by decide) (by decide)) 0 ((q_c (k := 0) (x := 0) (by decide)).w (by decide) (by decide)) hW (q_fr.sub kz80 (by decide) (by decide)) (by have := Int32.le_iff_toInt_le.mp kc74; have := kv51.1; have := kv51.2; have := kv52.1; have := kv52.2; have : ((-1) : Int32).toInt = -1 := (by decide); have : (0 : Int32).toInt = 0 := (by decide); omega) ls (lv_sub hl [2, 3, 4, 1, 0] rfl) (Nat.lt_succ_self _)
      · have kv81 : q_V 0 19 kx53 := (q_lt1 vkx53 kv52 (Int32.not_le.mp kc74)).w (by decide) (by decide)
        have kv82 : q_V 1 20 i2 := (q_lt2 vkx53 kv52 (Int32.not_le.mp kc74)).w (by decide) (by decide)
        refine lv_aload_n hx hb dX12_stands_74 rfl (lv_at hl 0 rfl) ?_
        refine q_gov hW (q_runV (As := []) (rest := []) hE hW (c_X12_pass_tz l G ks54 a0 h0 (q_fr.sub hz69a (by decide) (by decide))) kw_X12_283 (q_recv hE hW h0 rfl q_k12) rfl hl.1 rfl (Nat.le_of_ble_eq_true rfl) dX12_stands_75 ⟨by decide, by decide⟩ ⟨by decide, by decide⟩) (by decide) (fun ks84 H locs kp83 kf85 hW => ?_)
        have kz86 := (q_fr.and (q_fr.fr (q_fr.sub (F2 := [(40, 0), (40, 5), (40, 8)]) (A2 := [(58, 0, 7)]) hz69a (by decide) (by decide)) kf85 (by decide) (by decide)) kp83.2)
        refine lv_iconst (v := 0) hx hb dX12_stands_78 (by decide) ?_
        refine lv_istore (lv' := [(4, .int 0), (0, .ref a0), (1, .int i1), (2, .int i2), (3, .int kx53)]) hx hb dX12_stands_79 hl (by decide) rfl (fun ls hl => ?_)
        exact lp81a _ _ _ _ kv82 kv81 0 ((q_c (k := 0) (x := 0) (by decide)).w (by decide) (by decide)) hW (q_fr.sub kz86 (by decide) (by decide)) ls (lv_sub hl [1, 2, 3, 4, 0] rfl) (Nat.lt_succ_self _)
  have lp44a : ∀ (n44a : Nat) (ks90 : q_S) (H : Heap) (locs : List Loc) (kv87 : q_V 0 63 i1) (kv88 : q_V 0 20 i2) (kx89 : Int32) (vkx89 : q_V 0 7 kx89) (hW : q_Wd G [46, 58] σ s.heap ks90 H locs) (hz44a : q_fr G [(40, 0), (40, 5), (40, 8)] [(58, 0, 7), (46, 0, 54), (46, 57, 58), (46, 59, 101)] ks90) (ls : Array Slot) (hl : lv_has ls 6 [(0, .ref a0), (1, .int i1), (2, .int i2), (3, .int kx89)]), (7 - kx89.toInt).toNat < n44a → W p l e (q_Rm 5) s m args below meth c H locs 0 0 (MQ below (q_Qi G [46, 58] σ (fun r σ1 => q_V (-2147483648) 2147483647 r ∧ r = kz_stands i1 i2)) args s 0 0 (q_N G)) (F0 m 44 ls []) := by
    intro n44a
    induction n44a with
    | zero => intro _ _ _ _ _ _ _ _ _ _ _; exact fun h => absurd h (Nat.not_lt_zero _)
    | succ n44a ih44a =>
      intro ks90 H locs kv87 kv88 kx89 vkx89 hW hz44a ls hl hm44a
      refine lv_iload_n hx hb dX12_stands_44 rfl (lv_at hl 3 rfl) ?_
      refine lv_bipush (v := 7) hx hb dX12_stands_45 (by decide) ?_
      refine lv_icmp_ge (tgt := 67) hx hb dX12_stands_47 (by decide) (fun kc91 => ?_) (fun kc91 => ?_)
      · have kv92 : q_V 7 7 kx89 := (q_le2 (q_c (k := 7) (x := 7) (by decide)) vkx89 kc91).w (by decide) (by decide)
        refine lv_iconst (v := 0) hx hb dX12_stands_67 (by decide) ?_
        refine lv_istore_n (lv' := [(3, .int 0), (0, .ref a0), (1, .int i1), (2, .int i2)]) hx hb dX12_stands_68 rfl hl (by decide) rfl (fun ls hl => ?_)
        exact lp69a _ _ _ _ kv87 kv88 0 ((q_c (k := 0) (x := 0) (by decide)).w (by decide) (by decide)) hW (q_fr.sub hz44a (by decide) (by decide)) ls (lv_sub hl [1, 2, 3, 0] rfl) (Nat.lt_succ_self _)
      · have kv93 : q_V 0 6 kx89 := (q_lt1 vkx89 (q_c (k := 7) (x := 7) (by decide)) (Int32.not_le.mp kc91)).w (by decide) (by decide)
        refine lv_aload_n hx hb dX12_stands_50 rfl (lv_at hl 0 rfl) ?_
        refine q_getr hE hW h0 rfl q_k12 33 (by decide) rfl (hE.l wl_147) dX12_stands_51 (fun kb94 ekb94 hkb94a hkb94b => ?_)
        have hkb94 : q_T G kb94 = 58 := q_tag hkb94a hkb94b
        refine lv_iload_n hx hb dX12_stands_54 rfl (lv_at hl 3 rfl) ?_
        refine lv_aload_n hx hb dX12_stands_55 rfl (lv_at hl 0 rfl) ?_
        refine lv_iload_n hx hb dX12_stands_56 rfl (lv_at hl 3 rfl) ?_
        refine q_goi hW (q_runV (As := [.int kx89]) (rest := [.int kx89, .ref kb94]) hE hW (c_X12_readAt_tz l G ks90 a0 h0 kx89 kv93 (q_fr.sub hz44a (by decide) (by decide))) kw_X12_302 (q_recv hE hW h0 rfl q_k12) rfl hl.1 rfl (Nat.le_of_ble_eq_true rfl) dX12_stands_57 ⟨by decide, by decide⟩ ⟨by decide, by decide⟩) (by decide) (fun kx98 ks96 H locs kp95 kf97 hW => ?_)
        have kz99 := (q_fr.fr (q_fr.sub (F2 := [(40, 0), (40, 5), (40, 8)]) (A2 := [(58, 0, 7), (46, 0, 54), (46, 57, 58), (46, 59, 101)]) hz44a (by decide) (by decide)) kf97 (by decide) (by decide))
        obtain rfl : (0 : Int32) = kx98 := (q_lit kp95 (by decide)).symm
        refine q_iast hE hW hkb94 rfl (q_in kv93 (by decide) (by decide)) trivial (by decide) dX12_stands_60 (fun H locs ks100 kp101 hW => ?_)
        have kz102 := (q_fr.wA0 kz99 kp101 hkb94 rfl)
        obtain ⟨kx103, ekx103⟩ : ∃ y : Int32, y = kx89 + 1 := ⟨_, rfl⟩
        have vkx103 : q_V 1 7 kx103 := by rw [ekx103]; exact (q_add kv93 (q_c (k := 1) (x := 1) (by decide)) (by decide) (by decide)).w (by decide) (by decide)
        have ikx103 : kx103.toInt = kx89.toInt + 1 := q_incT ekx103 kv93 (by decide) (by decide) (by decide)
        refine lv_iinc (v := kx103) (lv' := [(3, .int kx103), (0, .ref a0), (1, .int i1), (2, .int i2)]) hx hb dX12_stands_61 hl (k := 3) rfl (by rw [ekx103]; rfl) (by decide) rfl (fun ls hl => ?_)
        refine lv_goto (tgt := 44) hx hb dX12_stands_64 (by decide) ?_
        exact ih44a _ _ _ kv87 kv88 kx103 (vkx103.w (by decide) (by decide)) hW (q_fr.sub kz102 (by decide) (by decide)) ls (lv_sub hl [1, 2, 3, 0] rfl) (Nat.lt_of_lt_of_le (q_up (ikx103) (show q_V 1 7 kx103 from vkx103).2) (Nat.le_of_lt_succ hm44a))
  refine lv_iload_n hx hb dX12_stands_0 rfl (lv_at hl 1 rfl) ?_
  refine lv_i2l (v := i1.toInt64) hx hb dX12_stands_1 rfl ?_
  refine lv_lconst (v := 0) hx hb dX12_stands_2 (by decide) ?_
  refine lv_ldc2 (v := 63) hx hb hE.1.2.2.2.1 (hE.w wl_815) dX12_stands_3 ?_
  refine q_goi hW (q_runS (As := [.long (i1).toInt64, .long 0, .long 63]) (rest := []) hE hW (c_X12_in l G σ ((i1).toInt64) 0 63) kw_X12_99 rfl hl.1 rfl (Nat.le_of_ble_eq_true rfl) dX12_stands_6 ⟨by decide, by decide⟩ ⟨by decide, by decide⟩) (by decide) (fun kx107 ks105 H locs kp104 kf106 hW => ?_)
  have kz108 := (q_fr.fr (q_fr.sub (F2 := [(40, 0), (40, 5), (40, 8)]) (A2 := [(46, 0, 54), (46, 57, 58), (46, 58, 59), (46, 59, 101), (58, 0, 7)]) hz (by decide) (by decide)) kf106 (by decide) (by decide))
  refine lv_if_ne (tgt := 15) hx hb dX12_stands_9 (by decide) (fun kc109 => ?_) (fun kc109 => ?_)
  · have kv110 : q_V 0 63 i1 := q_inV (kp104.2.1 kc109).1 (kp104.2.1 kc109).2 (q_lc (k := 0) (x := 0) (by decide)) (q_lc (k := 63) (x := 63) (by decide))
    have kv111 : q_V 1 1 kx107 := q_ne1 kp104.1 (q_c (k := 0) (x := 0) (by decide)) kc109 (by decide)
    refine lv_iload_n hx hb dX12_stands_15 rfl (lv_at hl 2 rfl) ?_
    refine lv_i2l (v := i2.toInt64) hx hb dX12_stands_16 rfl ?_
    refine lv_lconst (v := 0) hx hb dX12_stands_17 (by decide) ?_
    refine lv_ldc2 (v := 20) hx hb hE.1.2.2.2.1 (hE.w wl_649) dX12_stands_18 ?_
    refine q_goi hW (q_runS (As := [.long (i2).toInt64, .long 0, .long 20]) (rest := []) hE hW (c_X12_in l G ks105 ((i2).toInt64) 0 20) kw_X12_99 rfl hl.1 rfl (Nat.le_of_ble_eq_true rfl) dX12_stands_21 ⟨by decide, by decide⟩ ⟨by decide, by decide⟩) (by decide) (fun kx115 ks113 H locs kp112 kf114 hW => ?_)
    have kz116 := (q_fr.fr (q_fr.sub (F2 := [(40, 0), (40, 5), (40, 8)]) (A2 := [(46, 0, 54), (46, 57, 58), (46, 58, 59), (46, 59, 101), (58, 0, 7)]) kz108 (by decide) (by decide)) kf114 (by decide) (by decide))
    refine lv_if_ne (tgt := 30) hx hb dX12_stands_24 (by decide) (fun kc117 => ?_) (fun kc117 => ?_)
    · have kv118 : q_V 0 20 i2 := q_inV (kp112.2.1 kc117).1 (kp112.2.1 kc117).2 (q_lc (k := 0) (x := 0) (by decide)) (q_lc (k := 20) (x := 20) (by decide))
      have kv119 : q_V 1 1 kx115 := q_ne1 kp112.1 (q_c (k := 0) (x := 0) (by decide)) kc117 (by decide)
      refine lv_aload_n hx hb dX12_stands_30 rfl (lv_at hl 0 rfl) ?_
      refine lv_aload_n hx hb dX12_stands_31 rfl (lv_at hl 0 rfl) ?_
      refine q_getr hE hW h0 rfl q_k12 9 (by decide) rfl (hE.l wl_135) dX12_stands_32 (fun kb120 ekb120 hkb120a hkb120b => ?_)
      have hkb120 : q_T G kb120 = 46 := q_tag hkb120a hkb120b
      refine lv_aload_n hx hb dX12_stands_35 rfl (lv_at hl 0 rfl) ?_
      refine q_getr hE hW h0 rfl q_k12 32 (by decide) rfl (hE.l wl_146) dX12_stands_36 (fun kb121 ekb121 hkb121a hkb121b => ?_)
      have hkb121 : q_T G kb121 = 46 := q_tag hkb121a hkb121b
      refine q_gov hW (q_runV (As := [.ref kb120, .ref kb121]) (rest := []) hE hW (c_X12_copyRow_tz l G ks113 a0 h0 kb120 hkb120 kb121 hkb121 (q_fr.sub kz116 (by decide) (by decide))) kw_X12_298 (q_recv hE hW h0 rfl q_k12) rfl hl.1 rfl (Nat.le_of_ble_eq_true rfl) dX12_stands_39 ⟨by decide, by decide⟩ ⟨by decide, by decide⟩) (by decide) (fun ks123 H locs kp122 kf124 hW => ?_)
      have kz125 := (q_fr.and (q_fr.fr (q_fr.sub (F2 := [(40, 0), (40, 5), (40, 8)]) (A2 := [(58, 0, 7)]) kz116 (by decide) (by decide)) kf124 (by decide) (by decide)) kp122)
      refine lv_iconst (v := 0) hx hb dX12_stands_42 (by decide) ?_
      refine lv_istore_n (lv' := [(3, .int 0), (0, .ref a0), (1, .int i1), (2, .int i2)]) hx hb dX12_stands_43 rfl hl (by decide) rfl (fun ls hl => ?_)
      exact lp44a _ _ _ _ kv110 kv118 0 ((q_c (k := 0) (x := 0) (by decide)).w (by decide) (by decide)) hW (q_fr.sub kz125 (by decide) (by decide)) ls (lv_sub hl [1, 2, 3, 0] rfl) (Nat.lt_succ_self _)
    · have kv126 : q_V 0 0 kx115 := q_eq1 kp112.1 (q_c (k := 0) (x := 0) (by decide)) kc117 (by decide) (by decide)
      refine lv_bipush (v := (-3)) hx hb dX12_stands_27 (by decide) ?_
      exact q_reti hE hr hlocks hW (⟨((q_c (k := (-3)) (x := (-3)) (by decide)).w (by decide) (by decide)), (by have := kv110.1; have := kv110.2; have := (q_nin (kp112.2.2 kc117) (q_lc (k := 0) (x := 0) (by decide)) (q_lc (k := 20) (x := 20) (by decide))); unfold kz_stands; (repeat' split) <;> first | rfl | omega)⟩) dX12_stands_29
  · have kv127 : q_V 0 0 kx107 := q_eq1 kp104.1 (q_c (k := 0) (x := 0) (by decide)) kc109 (by decide) (by decide)
    refine lv_bipush (v := (-2)) hx hb dX12_stands_12 (by decide) ?_
    exact q_reti hE hr hlocks hW (⟨((q_c (k := (-2)) (x := (-2)) (by decide)).w (by decide) (by decide)), (by have := (q_nin (kp104.2.2 kc109) (q_lc (k := 0) (x := 0) (by decide)) (q_lc (k := 63) (x := 63) (by decide))); unfold kz_stands; (repeat' split) <;> first | rfl | omega)⟩) dX12_stands_14
