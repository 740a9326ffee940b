theorem q_ep67 {i j : Nat} {x : Int} (h : q_eP 66 i x) : q_eP 67 j x := by
  obtain ⟨a, b⟩ := h
  exact ⟨a, b⟩
theorem q_ep66 {i j : Nat} {x : Int} (h : q_eP 67 i x) : q_eP 66 j x := by
  obtain ⟨a, b⟩ := h
  exact ⟨a, b⟩
set_option maxHeartbeats 4000000 in
set_option maxRecDepth 100000 in
theorem c_X12_move (l : Launch) (G : q_G) (σ : q_S) (a0 : Nat) (h0 : q_T G a0 = 40) (i1 : Int32) (i2 : Int32) (i3 : Int32) (i4 : Int32) (i5 : Int32)  : Met l yX12_move (Cond.code yX12_move cX12_move 7 (some .int) :: wsL_law) (q_Rm 3) (q_Pre G σ [.ref a0, .int i1, .int i2, .int i3, .int i4, .int i5]) (q_Qi G [66, 67] σ (fun r σ1 => q_V (-2147483648) 2147483647 r)) 0 0 (q_N G) := by
  refine q_ofW (ts := [66, 67]) (by decide) (Nat.le_of_ble_eq_true rfl) ?_
  intro p e s m args below meth c hE hr hlocks hW ls hl
  have hE : q_E G p s m args c cX12_move 7 RX12 := hE
  have hx := hE.1.1
  have hb := hE.1.2.1
  have hl : lv_has ls 7 [(0, .ref a0), (1, .int i1), (2, .int i2), (3, .int i3), (4, .int i4), (5, .int i5)] := hl
  have lp130a : ∀ (n130a : Nat) (ks5 : q_S) (H : Heap) (locs : List Loc) (kv1 : q_V 0 2 i3) (kv2 : q_V 0 16 i4) (kv3 : q_V 0 16 i5) (kx4 : Int32) (vkx4 : q_V 0 16 kx4) (hW : q_Wd G [66, 67] σ s.heap ks5 H locs) (iv130a0 : i2.toInt + i5.toInt ≤ 16) (iv130a1 : i4.toInt + i5.toInt ≤ 16) (ls : Array Slot) (hl : lv_has ls 7 [(0, .ref a0), (3, .int i3), (4, .int i4), (5, .int i5), (6, .int kx4)]), (16 - kx4.toInt).toNat < n130a → W p l e (q_Rm 3) s m args below meth c H locs 0 0 (MQ below (q_Qi G [66, 67] σ (fun r σ1 => q_V (-2147483648) 2147483647 r)) args s 0 0 (q_N G)) (F0 m 130 ls []) := by
    intro n130a
    induction n130a with
    | zero => intro _ _ _ _ _ _ _ _ _ _ _ _ _; exact fun h => absurd h (Nat.not_lt_zero _)
    | succ n130a ih130a =>
      intro ks5 H locs kv1 kv2 kv3 kx4 vkx4 hW iv130a0 iv130a1 ls hl hm130a
      refine lv_iload hx hb dX12_move_130 (lv_at hl 4 rfl) ?_
      refine lv_iload hx hb dX12_move_132 (lv_at hl 3 rfl) ?_
      refine lv_icmp_ge (tgt := 183) hx hb dX12_move_134 (by decide) (fun kc6 => ?_) (fun kc6 => ?_)
      · refine lv_iload hx hb dX12_move_183 (lv_at hl 3 rfl) ?_
        exact q_reti hE hr hlocks hW ((kv3.w (by decide) (by decide))) dX12_move_185
      · have kv7 : q_V 0 15 kx4 := (q_lt1 vkx4 kv3 (Int32.not_le.mp kc6)).w (by decide) (by decide)
        have kv8 : q_V 1 16 i5 := (q_lt2 vkx4 kv3 (Int32.not_le.mp kc6)).w (by decide) (by decide)
        refine lv_aload_n hx hb dX12_move_137 rfl (lv_at hl 0 rfl) ?_
        refine lv_iload_n hx hb dX12_move_138 rfl (lv_at hl 1 rfl) ?_
        refine lv_aload_n hx hb dX12_move_139 rfl (lv_at hl 0 rfl) ?_
        refine q_getr hE hW h0 rfl q_k12 43 (by decide) rfl (hE.l wl_156) dX12_move_140 (fun kb9 ekb9 hkb9a hkb9b => ?_)
        have hkb9 : q_T G kb9 = 67 := q_tag hkb9a hkb9b
        refine lv_iload hx hb dX12_move_143 (lv_at hl 4 rfl) ?_
        refine q_iald hE hW hkb9 rfl (q_in kv7 (by decide) (by decide)) dX12_move_145 (fun kx10 ekx10 gkx10 => ?_)
        have vkx10 : q_V 0 2147483647 kx10 := ⟨gkx10.1, (q_all kx10).2⟩
        refine q_goi hW (q_runV (As := [.int i3, .int kx10]) (rest := []) hE hW (c_X12_holds l G ks5 a0 h0 i3 kv1 kx10) kw_X12_361 (q_recv hE hW h0 rfl q_k12) rfl hl.1 rfl (Nat.le_of_ble_eq_true rfl) dX12_move_146 ⟨by decide, by decide⟩ ⟨by decide, by decide⟩) (by decide) (fun kx14 ks12 H locs kp11 kf13 hW => ?_)
        refine lv_if_ne (tgt := 155) hx hb dX12_move_149 (by decide) (fun kc15 => ?_) (fun kc15 => ?_)
        · have kv16 : q_V 1 1 kx14 := q_ne1 kp11 (q_c (k := 0) (x := 0) (by decide)) kc15 (by decide)
          refine lv_aload_n hx hb dX12_move_155 rfl (lv_at hl 0 rfl) ?_
          refine q_getr hE hW h0 rfl q_k12 42 (by decide) rfl (hE.l wl_155) dX12_move_156 (fun kb17 ekb17 hkb17a hkb17b => ?_)
          have hkb17 : q_T G kb17 = 66 := q_tag hkb17a hkb17b
          refine lv_bipush (v := 16) hx hb dX12_move_159 (by decide) ?_
          refine lv_iload_n hx hb dX12_move_161 rfl (lv_at hl 1 rfl) ?_
          refine lv_imul hx hb dX12_move_162 ?_
          refine lv_topi (fun kx18 ekx18 => ?_)
          have vkx18 : q_V 0 32 kx18 := by rw [ekx18]; exact (q_mul (k := 16) (by decide) kv1 (by decide) (by decide) (by decide)).w (by decide) (by decide)
          refine lv_iload hx hb dX12_move_163 (lv_at hl 2 rfl) ?_
          refine lv_iadd hx hb dX12_move_165 ?_
          refine lv_topi (fun kx19 ekx19 => ?_)
          have vkx19 : q_V 0 48 kx19 := by rw [ekx19]; exact (q_add vkx18 kv2 (by decide) (by decide)).w (by decide) (by decide)
          refine lv_iload hx hb dX12_move_166 (lv_at hl 4 rfl) ?_
          refine lv_iadd hx hb dX12_move_168 ?_
          refine lv_topi (fun kx20 ekx20 => ?_)
          have vkx20 : q_V 0 63 kx20 := by rw [ekx20]; exact (q_add vkx19 kv7 (by decide) (by decide)).w (by decide) (by decide)
          have kv21 : q_V 0 47 kx20 := q_ixM ekx18 ekx19 ekx20 kv1 kv2 kv7 (by decide) iv130a1 (Int32.not_le.mp kc6)
          refine lv_aload_n hx hb dX12_move_169 rfl (lv_at hl 0 rfl) ?_
          refine q_getr hE hW h0 rfl q_k12 43 (by decide) rfl (hE.l wl_156) dX12_move_170 (fun kb22 ekb22 hkb22a hkb22b => ?_)
          obtain rfl : kb9 = kb22 := ((kf13.R _ h0 (by decide)).trans ekb9).symm.trans ekb22
          refine lv_iload hx hb dX12_move_173 (lv_at hl 4 rfl) ?_
          refine q_iald hE hW hkb9 rfl (q_in kv7 (by decide) (by decide)) dX12_move_175 (fun kx23 ekx23 gkx23 => ?_)
          obtain rfl : kx10 = kx23 := ((kf13.A _ hkb9 (by decide)).trans ekx10).symm.trans ekx23
          refine q_iast hE hW hkb17 rfl (q_in kv21 (by decide) (by decide)) (q_ep66 gkx10) (by decide) dX12_move_176 (fun H locs ks24 kp25 hW => ?_)
          obtain ⟨kx26, ekx26⟩ : ∃ y : Int32, y = kx4 + 1 := ⟨_, rfl⟩
          have vkx26 : q_V 1 16 kx26 := by rw [ekx26]; exact (q_add kv7 (q_c (k := 1) (x := 1) (by decide)) (by decide) (by decide)).w (by decide) (by decide)
          have ikx26 : kx26.toInt = kx4.toInt + 1 := q_incT ekx26 kv7 (by decide) (by decide) (by decide)
          refine lv_iinc (v := kx26) (lv' := [(6, .int kx26), (0, .ref a0), (3, .int i3), (4, .int i4), (5, .int i5)]) hx hb dX12_move_177 hl (k := 4) rfl (by rw [ekx26]; rfl) (by decide) rfl (fun ls hl => ?_)
          refine lv_goto (tgt := 130) hx hb dX12_move_180 (by decide) ?_
          exact ih130a _ _ _ kv1 kv2 (kv8.w (by decide) (by decide)) kx26 (vkx26.w (by decide) (by decide)) hW iv130a0 iv130a1 ls (lv_sub hl [1, 2, 3, 4, 0] rfl) (Nat.lt_of_lt_of_le (q_up (ikx26) (show q_V 1 16 kx26 from vkx26).2) (Nat.le_of_lt_succ hm130a))
        · have kv27 : q_V 0 0 kx14 := q_eq1 kp11 (q_c (k := 0) (x := 0) (by decide)) kc15 (by decide) (by decide)
          refine lv_bipush (v := (-13)) hx hb dX12_move_152 (by decide) ?_
          exact q_reti hE hr hlocks hW (((q_c (k := (-13)) (x := (-13)) (by decide)).w (by decide) (by decide))) dX12_move_154
  have lp93a : ∀ (n93a : Nat) (ks34 : q_S) (H : Heap) (locs : List Loc) (kv28 : q_V 0 2 i1) (kv29 : q_V 0 16 i2) (kv30 : q_V 0 2 i3) (kv31 : q_V 0 16 i4) (kv32 : q_V 0 16 i5) (kx33 : Int32) (vkx33 : q_V 0 16 kx33) (hW : q_Wd G [66, 67] σ s.heap ks34 H locs) (iv93a0 : i2.toInt + i5.toInt ≤ 16) (iv93a1 : i4.toInt + i5.toInt ≤ 16) (ls : Array Slot) (hl : lv_has ls 7 [(0, .ref a0), (1, .int i1), (2, .int i2), (3, .int i3), (4, .int i4), (5, .int i5), (6, .int kx33)]), (16 - kx33.toInt).toNat < n93a → W p l e (q_Rm 3) s m args below meth c H locs 0 0 (MQ below (q_Qi G [66, 67] σ (fun r σ1 => q_V (-2147483648) 2147483647 r)) args s 0 0 (q_N G)) (F0 m 93 ls []) := by
    intro n93a
    induction n93a with
    | zero => intro _ _ _ _ _ _ _ _ _ _ _ _ _ _ _; exact fun h => absurd h (Nat.not_lt_zero _)
    | succ n93a ih93a =>
      intro ks34 H locs kv28 kv29 kv30 kv31 kv32 kx33 vkx33 hW iv93a0 iv93a1 ls hl hm93a
      refine lv_iload hx hb dX12_move_93 (lv_at hl 6 rfl) ?_
      refine lv_iload hx hb dX12_move_95 (lv_at hl 5 rfl) ?_
      refine lv_icmp_ge (tgt := 127) hx hb dX12_move_97 (by decide) (fun kc35 => ?_) (fun kc35 => ?_)
      · refine lv_iconst (v := 0) hx hb dX12_move_127 (by decide) ?_
        refine lv_istore (lv' := [(6, .int 0), (0, .ref a0), (1, .int i1), (2, .int i2), (3, .int i3), (4, .int i4), (5, .int i5)]) hx hb dX12_move_128 hl (by decide) rfl (fun ls hl => ?_)
        exact lp130a _ _ _ _ kv30 kv31 kv32 0 ((q_c (k := 0) (x := 0) (by decide)).w (by decide) (by decide)) hW iv93a0 iv93a1 ls (lv_sub hl [1, 4, 5, 6, 0] rfl) (Nat.lt_succ_self _)
      · have kv36 : q_V 0 15 kx33 := (q_lt1 vkx33 kv32 (Int32.not_le.mp kc35)).w (by decide) (by decide)
        have kv37 : q_V 1 16 i5 := (q_lt2 vkx33 kv32 (Int32.not_le.mp kc35)).w (by decide) (by decide)
        refine lv_aload_n hx hb dX12_move_100 rfl (lv_at hl 0 rfl) ?_
        refine q_getr hE hW h0 rfl q_k12 43 (by decide) rfl (hE.l wl_156) dX12_move_101 (fun kb38 ekb38 hkb38a hkb38b => ?_)
        have hkb38 : q_T G kb38 = 67 := q_tag hkb38a hkb38b
        refine lv_iload hx hb dX12_move_104 (lv_at hl 6 rfl) ?_
        refine lv_aload_n hx hb dX12_move_106 rfl (lv_at hl 0 rfl) ?_
        refine q_getr hE hW h0 rfl q_k12 42 (by decide) rfl (hE.l wl_155) dX12_move_107 (fun kb39 ekb39 hkb39a hkb39b => ?_)
        have hkb39 : q_T G kb39 = 66 := q_tag hkb39a hkb39b
        refine lv_bipush (v := 16) hx hb dX12_move_110 (by decide) ?_
        refine lv_iload_n hx hb dX12_move_112 rfl (lv_at hl 1 rfl) ?_
        refine lv_imul hx hb dX12_move_113 ?_
        refine lv_topi (fun kx40 ekx40 => ?_)
        have vkx40 : q_V 0 32 kx40 := by rw [ekx40]; exact (q_mul (k := 16) (by decide) kv28 (by decide) (by decide) (by decide)).w (by decide) (by decide)
        refine lv_iload_n hx hb dX12_move_114 rfl (lv_at hl 2 rfl) ?_
        refine lv_iadd hx hb dX12_move_115 ?_
        refine lv_topi (fun kx41 ekx41 => ?_)
        have vkx41 : q_V 0 48 kx41 := by rw [ekx41]; exact (q_add vkx40 kv29 (by decide) (by decide)).w (by decide) (by decide)
        refine lv_iload hx hb dX12_move_116 (lv_at hl 6 rfl) ?_
        refine lv_iadd hx hb dX12_move_118 ?_
        refine lv_topi (fun kx42 ekx42 => ?_)
        have vkx42 : q_V 0 63 kx42 := by rw [ekx42]; exact (q_add vkx41 kv36 (by decide) (by decide)).w (by decide) (by decide)
        have kv43 : q_V 0 47 kx42 := q_ixM ekx40 ekx41 ekx42 kv28 kv29 kv36 (by decide) iv93a0 (Int32.not_le.mp kc35)
        refine q_iald hE hW hkb39 rfl (q_in kv43 (by decide) (by decide)) dX12_move_119 (fun kx44 ekx44 gkx44 => ?_)
        have vkx44 : q_V 0 2147483647 kx44 := ⟨gkx44.1, (q_all kx44).2⟩
        refine q_iast hE hW hkb38 rfl (q_in kv36 (by decide) (by decide)) (q_ep67 gkx44) (by decide) dX12_move_120 (fun H locs ks45 kp46 hW => ?_)
        obtain ⟨kx47, ekx47⟩ : ∃ y : Int32, y = kx33 + 1 := ⟨_, rfl⟩
        have vkx47 : q_V 1 16 kx47 := by rw [ekx47]; exact (q_add kv36 (q_c (k := 1) (x := 1) (by decide)) (by decide) (by decide)).w (by decide) (by decide)
        have ikx47 : kx47.toInt = kx33.toInt + 1 := q_incT ekx47 kv36 (by decide) (by decide) (by decide)
        refine lv_iinc (v := kx47) (lv' := [(6, .int kx47), (0, .ref a0), (1, .int i1), (2, .int i2), (3, .int i3), (4, .int i4), (5, .int i5)]) hx hb dX12_move_121 hl (k := 6) rfl (by rw [ekx47]; rfl) (by decide) rfl (fun ls hl => ?_)
        refine lv_goto (tgt := 93) hx hb dX12_move_124 (by decide) ?_
        exact ih93a _ _ _ kv28 kv29 kv30 kv31 (kv37.w (by decide) (by decide)) kx47 (vkx47.w (by decide) (by decide)) hW iv93a0 iv93a1 ls (lv_sub hl [1, 2, 3, 4, 5, 6, 0] rfl) (Nat.lt_of_lt_of_le (q_up (ikx47) (show q_V 1 16 kx47 from vkx47).2) (Nat.le_of_lt_succ hm93a))
  have jn90a : ∀ (ks53 : q_S) (H : Heap) (locs : List Loc) (kv48 : q_V 0 2 i1) (kv49 : q_V 0 16 i2) (kv50 : q_V 0 2 i3) (kv51 : q_V 0 16 i4) (kv52 : q_V 0 16 i5) (hW : q_Wd G [66, 67] σ s.heap ks53 H locs) (iv90a0 : i2.toInt + i5.toInt ≤ 16) (iv90a1 : i4.toInt + i5.toInt ≤ 16) (ls : Array Slot) (hl : lv_has ls 7 [(0, .ref a0), (1, .int i1), (2, .int i2), (3, .int i3), (4, .int i4), (5, .int i5)]), W p l e (q_Rm 3) s m args below meth c H locs 0 0 (MQ below (q_Qi G [66, 67] σ (fun r σ1 => q_V (-2147483648) 2147483647 r)) args s 0 0 (q_N G)) (F0 m 90 ls []) := by
    intro ks53 H locs kv48 kv49 kv50 kv51 kv52 hW iv90a0 iv90a1 ls hl
    refine lv_iconst (v := 0) hx hb dX12_move_90 (by decide) ?_
    refine lv_istore (lv' := [(6, .int 0), (0, .ref a0), (1, .int i1), (2, .int i2), (3, .int i3), (4, .int i4), (5, .int i5)]) hx hb dX12_move_91 hl (by decide) rfl (fun ls hl => ?_)
    exact lp93a _ _ _ _ kv48 kv49 kv50 kv51 kv52 0 ((q_c (k := 0) (x := 0) (by decide)).w (by decide) (by decide)) hW iv90a0 iv90a1 ls (lv_sub hl [1, 2, 3, 4, 5, 6, 0] rfl) (Nat.lt_succ_self _)
  have jn38a : ∀ (ks56 : q_S) (H : Heap) (locs : List Loc) (kv54 : q_V 0 2 i1) (kv55 : q_V 0 2 i3) (hW : q_Wd G [66, 67] σ s.heap ks56 H locs) (ls : Array Slot) (hl : lv_has ls 7 [(0, .ref a0), (1, .int i1), (2, .int i2), (3, .int i3), (4, .int i4), (5, .int i5)]), W p l e (q_Rm 3) s m args below meth c H locs 0 0 (MQ below (q_Qi G [66, 67] σ (fun r σ1 => q_V (-2147483648) 2147483647 r)) args s 0 0 (q_N G)) (F0 m 38 ls []) := by
    intro ks56 H locs kv54 kv55 hW ls hl
    refine lv_iload_n hx hb dX12_move_38 rfl (lv_at hl 2 rfl) ?_
    refine lv_if_lt (tgt := 87) hx hb dX12_move_39 (by decide) (fun kc57 => ?_) (fun kc57 => ?_)
    · have kv58 : q_V (-2147483648) (-1) i2 := (q_lt1 (q_all i2) (q_c (k := 0) (x := 0) (by decide)) kc57).w (by decide) (by decide)
      refine lv_bipush (v := (-12)) hx hb dX12_move_87 (by decide) ?_
      exact q_reti hE hr hlocks hW (((q_c (k := (-12)) (x := (-12)) (by decide)).w (by decide) (by decide))) dX12_move_89
    · have kv59 : q_V 0 2147483647 i2 := (q_le2 (q_c (k := 0) (x := 0) (by decide)) (q_all i2) (Int32.not_lt.mp kc57)).w (by decide) (by decide)
      refine lv_iload hx hb dX12_move_42 (lv_at hl 4 rfl) ?_
      refine lv_if_lt (tgt := 87) hx hb dX12_move_44 (by decide) (fun kc60 => ?_) (fun kc60 => ?_)
      · have kv61 : q_V (-2147483648) (-1) i4 := (q_lt1 (q_all i4) (q_c (k := 0) (x := 0) (by decide)) kc60).w (by decide) (by decide)
        refine lv_bipush (v := (-12)) hx hb dX12_move_87 (by decide) ?_
        exact q_reti hE hr hlocks hW (((q_c (k := (-12)) (x := (-12)) (by decide)).w (by decide) (by decide))) dX12_move_89
      · have kv62 : q_V 0 2147483647 i4 := (q_le2 (q_c (k := 0) (x := 0) (by decide)) (q_all i4) (Int32.not_lt.mp kc60)).w (by decide) (by decide)
        refine lv_iload hx hb dX12_move_47 (lv_at hl 5 rfl) ?_
        refine lv_if_lt (tgt := 87) hx hb dX12_move_49 (by decide) (fun kc63 => ?_) (fun kc63 => ?_)
        · have kv64 : q_V (-2147483648) (-1) i5 := (q_lt1 (q_all i5) (q_c (k := 0) (x := 0) (by decide)) kc63).w (by decide) (by decide)
          refine lv_bipush (v := (-12)) hx hb dX12_move_87 (by decide) ?_
          exact q_reti hE hr hlocks hW (((q_c (k := (-12)) (x := (-12)) (by decide)).w (by decide) (by decide))) dX12_move_89
        · have kv65 : q_V 0 2147483647 i5 := (q_le2 (q_c (k := 0) (x := 0) (by decide)) (q_all i5) (Int32.not_lt.mp kc63)).w (by decide) (by decide)
          refine lv_iload_n hx hb dX12_move_52 rfl (lv_at hl 2 rfl) ?_
          refine lv_i2l (v := i2.toInt64) hx hb dX12_move_53 rfl ?_
          refine lv_iload hx hb dX12_move_54 (lv_at hl 5 rfl) ?_
          refine lv_i2l (v := i5.toInt64) hx hb dX12_move_56 rfl ?_
          refine lv_ladd hx hb dX12_move_57 ?_
          refine lv_topl (fun ky66 eky66 => ?_)
          refine lv_aload_n hx hb dX12_move_58 rfl (lv_at hl 0 rfl) ?_
          refine q_getr hE hW h0 rfl q_k12 41 (by decide) rfl (hE.l wl_154) dX12_move_59 (fun kb67 ekb67 hkb67a hkb67b => ?_)
          have hkb67 : q_T G kb67 = 65 := q_tag hkb67a hkb67b
          refine lv_iload_n hx hb dX12_move_62 rfl (lv_at hl 1 rfl) ?_
          refine q_iald hE hW hkb67 rfl (q_in kv54 (by decide) (by decide)) dX12_move_63 (fun kx68 ekx68 gkx68 => ?_)
          have vkx68 : q_V 0 16 kx68 := gkx68
          refine lv_i2l (v := kx68.toInt64) hx hb dX12_move_64 rfl ?_
          refine W.lcmp hx hb dX12_move_65 ?_
          refine lv_topi (fun kx69 ekx69 => ?_)
          refine lv_if_gt (tgt := 87) hx hb dX12_move_66 (by decide) (fun kc70 => ?_) (fun kc70 => ?_)
          · have kr71 : ((kx68).toInt64 : Int64) < (ky66 : Int64) := (lg_cmp_gt (ky66 : Int64) ((kx68).toInt64 : Int64)).mp (by rw [← ekx69]; exact kc70)
            have kv72 : q_V 1 2147483647 kx69 := (q_lt2 (q_c (k := 0) (x := 0) (by decide)) (q_all kx69) kc70).w (by decide) (by decide)
            refine lv_bipush (v := (-12)) hx hb dX12_move_87 (by decide) ?_
            exact q_reti hE hr hlocks hW (((q_c (k := (-12)) (x := (-12)) (by decide)).w (by decide) (by decide))) dX12_move_89
          · have kr73 : (ky66 : Int64) ≤ ((kx68).toInt64 : Int64) := (lg_cmp_le (ky66 : Int64) ((kx68).toInt64 : Int64)).mp (by rw [← ekx69]; exact (Int32.not_lt.mp kc70))
            have kh74 : i2.toInt + i5.toInt ≤ 16 := q_lsum eky66 kr73 vkx68
            have kv75 : q_V 0 16 i2 := q_lsA kh74 kv59 kv65 (by decide)
            have kv76 : q_V 0 16 i5 := q_lsB kh74 kv65 kv75 (by decide)
            have kv77 : q_V (-2147483648) 0 kx69 := (q_le1 (q_all kx69) (q_c (k := 0) (x := 0) (by decide)) (Int32.not_lt.mp kc70)).w (by decide) (by decide)
            refine lv_iload hx hb dX12_move_69 (lv_at hl 4 rfl) ?_
            refine lv_i2l (v := i4.toInt64) hx hb dX12_move_71 rfl ?_
            refine lv_iload hx hb dX12_move_72 (lv_at hl 5 rfl) ?_
            refine lv_i2l (v := i5.toInt64) hx hb dX12_move_74 rfl ?_
            refine lv_ladd hx hb dX12_move_75 ?_
            refine lv_topl (fun ky78 eky78 => ?_)
            refine lv_aload_n hx hb dX12_move_76 rfl (lv_at hl 0 rfl) ?_
            refine q_getr hE hW h0 rfl q_k12 41 (by decide) rfl (hE.l wl_154) dX12_move_77 (fun kb79 ekb79 hkb79a hkb79b => ?_)
            obtain rfl : kb67 = kb79 := ekb67.symm.trans ekb79
            refine lv_iload_n hx hb dX12_move_80 rfl (lv_at hl 3 rfl) ?_
            refine q_iald hE hW hkb67 rfl (q_in kv55 (by decide) (by decide)) dX12_move_81 (fun kx80 ekx80 gkx80 => ?_)
            have vkx80 : q_V 0 16 kx80 := gkx80
            refine lv_i2l (v := kx80.toInt64) hx hb dX12_move_82 rfl ?_
            refine W.lcmp hx hb dX12_move_83 ?_
            refine lv_topi (fun kx81 ekx81 => ?_)
            refine lv_if_le (tgt := 90) hx hb dX12_move_84 (by decide) (fun kc82 => ?_) (fun kc82 => ?_)
            · have kr83 : (ky78 : Int64) ≤ ((kx80).toInt64 : Int64) := (lg_cmp_le (ky78 : Int64) ((kx80).toInt64 : Int64)).mp (by rw [← ekx81]; exact kc82)
              have kh84 : i4.toInt + i5.toInt ≤ 16 := q_lsum eky78 kr83 vkx80
              have kv85 : q_V 0 16 i4 := q_lsA kh84 kv62 kv76 (by decide)
              have kv86 : q_V (-2147483648) 0 kx81 := (q_le1 (q_all kx81) (q_c (k := 0) (x := 0) (by decide)) kc82).w (by decide) (by decide)
              exact jn90a _ _ _ kv54 kv75 kv55 kv85 kv76 hW kh74 kh84 ls (lv_sub hl [0, 1, 2, 3, 4, 5] rfl)
            · have kr87 : ((kx80).toInt64 : Int64) < (ky78 : Int64) := (lg_cmp_gt (ky78 : Int64) ((kx80).toInt64 : Int64)).mp (by rw [← ekx81]; exact (Int32.not_le.mp kc82))
              have kv88 : q_V 1 2147483647 kx81 := (q_lt2 (q_c (k := 0) (x := 0) (by decide)) (q_all kx81) (Int32.not_le.mp kc82)).w (by decide) (by decide)
              refine lv_bipush (v := (-12)) hx hb dX12_move_87 (by decide) ?_
              exact q_reti hE hr hlocks hW (((q_c (k := (-12)) (x := (-12)) (by decide)).w (by decide) (by decide))) dX12_move_89
  refine lv_iload_n hx hb dX12_move_0 rfl (lv_at hl 1 rfl) ?_
  refine q_goi hW (q_runS (As := [.int i1]) (rest := []) hE hW (c_X12_isRow l G σ i1) kw_X12_354 rfl hl.1 rfl (Nat.le_of_ble_eq_true rfl) dX12_move_1 ⟨by decide, by decide⟩ ⟨by decide, by decide⟩) (by decide) (fun kx92 ks90 H locs kp89 kf91 hW => ?_)
  refine lv_if_eq (tgt := 14) hx hb dX12_move_4 (by decide) (fun kc93 => ?_) (fun kc93 => ?_)
  · have kv94 : q_V 0 0 kx92 := q_eq1 kp89.1 (q_c (k := 0) (x := 0) (by decide)) kc93 (by decide) (by decide)
    refine lv_bipush (v := (-2)) hx hb dX12_move_14 (by decide) ?_
    exact q_reti hE hr hlocks hW (((q_c (k := (-2)) (x := (-2)) (by decide)).w (by decide) (by decide))) dX12_move_16
  · have kv95 : q_V 0 2 i1 := kp89.2 kc93
    have kv96 : q_V 1 1 kx92 := q_ne1 kp89.1 (q_c (k := 0) (x := 0) (by decide)) kc93 (by decide)
    refine lv_iload_n hx hb dX12_move_7 rfl (lv_at hl 3 rfl) ?_
    refine q_goi hW (q_runS (As := [.int i3]) (rest := []) hE hW (c_X12_isRow l G ks90 i3) kw_X12_354 rfl hl.1 rfl (Nat.le_of_ble_eq_true rfl) dX12_move_8 ⟨by decide, by decide⟩ ⟨by decide, by decide⟩) (by decide) (fun kx100 ks98 H locs kp97 kf99 hW => ?_)
    refine lv_if_ne (tgt := 17) hx hb dX12_move_11 (by decide) (fun kc101 => ?_) (fun kc101 => ?_)
    · have kv102 : q_V 0 2 i3 := kp97.2 kc101
      have kv103 : q_V 1 1 kx100 := q_ne1 kp97.1 (q_c (k := 0) (x := 0) (by decide)) kc101 (by decide)
      refine lv_aload_n hx hb dX12_move_17 rfl (lv_at hl 0 rfl) ?_
      refine q_getr hE hW h0 rfl q_k12 39 (by decide) rfl (hE.l wl_152) dX12_move_18 (fun kb104 ekb104 hkb104a hkb104b => ?_)
      have hkb104 : q_T G kb104 = 63 := q_tag hkb104a hkb104b
      refine lv_iload_n hx hb dX12_move_21 rfl (lv_at hl 1 rfl) ?_
      refine q_zald hE hW hkb104 rfl (q_in kv95 (by decide) (by decide)) dX12_move_22 (fun kx105 ekx105 gkx105 => ?_)
      have vkx105 : q_V 0 1 kx105 := gkx105
      refine lv_if_eq (tgt := 35) hx hb dX12_move_23 (by decide) (fun kc106 => ?_) (fun kc106 => ?_)
      · have kv107 : q_V 0 0 kx105 := q_eq1 vkx105 (q_c (k := 0) (x := 0) (by decide)) kc106 (by decide) (by decide)
        refine lv_bipush (v := (-11)) hx hb dX12_move_35 (by decide) ?_
        exact q_reti hE hr hlocks hW (((q_c (k := (-11)) (x := (-11)) (by decide)).w (by decide) (by decide))) dX12_move_37
      · have kv108 : q_V 1 1 kx105 := q_ne1 vkx105 (q_c (k := 0) (x := 0) (by decide)) kc106 (by decide)
        refine lv_aload_n hx hb dX12_move_26 rfl (lv_at hl 0 rfl) ?_
        refine q_getr hE hW h0 rfl q_k12 39 (by decide) rfl (hE.l wl_152) dX12_move_27 (fun kb109 ekb109 hkb109a hkb109b => ?_)
        obtain rfl : kb104 = kb109 := ekb104.symm.trans ekb109
        refine lv_iload_n hx hb dX12_move_30 rfl (lv_at hl 3 rfl) ?_
        refine q_zald hE hW hkb104 rfl (q_in kv102 (by decide) (by decide)) dX12_move_31 (fun kx110 ekx110 gkx110 => ?_)
        have vkx110 : q_V 0 1 kx110 := gkx110
        refine lv_if_ne (tgt := 38) hx hb dX12_move_32 (by decide) (fun kc111 => ?_) (fun kc111 => ?_)
        · have kv112 : q_V 1 1 kx110 := q_ne1 vkx110 (q_c (k := 0) (x := 0) (by decide)) kc111 (by decide)
          exact jn38a _ _ _ kv95 kv102 hW ls (lv_sub hl [0, 1, 2, 3, 4, 5] rfl)
        · have kv113 : q_V 0 0 kx110 := q_eq1 vkx110 (q_c (k := 0) (x := 0) (by decide)) kc111 (by decide) (by decide)
          refine lv_bipush (v := (-11)) hx hb dX12_move_35 (by decide) ?_
          exact q_reti hE hr hlocks hW (((q_c (k := (-11)) (x := (-11)) (by decide)).w (by decide) (by decide))) dX12_move_37
    · have kv114 : q_V 0 0 kx100 := q_eq1 kp97.1 (q_c (k := 0) (x := 0) (by decide)) kc101 (by decide) (by decide)
      refine lv_bipush (v := (-2)) hx hb dX12_move_14 (by decide) ?_
      exact q_reti hE hr hlocks hW (((q_c (k := (-2)) (x := (-2)) (by decide)).w (by decide) (by decide))) dX12_move_16
