/-- what line answers -/
def kln (a s n : Int32) : Int32 := if 0 ≤ a.toInt ∧ a.toInt ≤ 2 then (if (0 ≤ s.toInt ∧ s.toInt ≤ 2) ∧ n.toInt ≤ 16 then (if n.toInt < 0 then -16 else n) else -3) else -2
theorem kln_u {a s n : Int32} (h : ¬ (0 ≤ a.toInt ∧ a.toInt ≤ 2)) : -2 = kln a s n := by unfold kln; rw [if_neg h]
theorem kln_o {a s n : Int32} (h : 0 ≤ a.toInt ∧ a.toInt ≤ 2) (h2 : ¬ ((0 ≤ s.toInt ∧ s.toInt ≤ 2) ∧ n.toInt ≤ 16)) : -3 = kln a s n := by unfold kln; rw [if_pos h, if_neg h2]
theorem kln_z {a s n : Int32} (h : 0 ≤ a.toInt ∧ a.toInt ≤ 2) (h2 : (0 ≤ s.toInt ∧ s.toInt ≤ 2) ∧ n.toInt ≤ 16) (h3 : n.toInt < 0) : -16 = kln a s n := by unfold kln; rw [if_pos h, if_pos h2, if_pos h3]
theorem kln_n {a s n : Int32} (h : 0 ≤ a.toInt ∧ a.toInt ≤ 2) (h2 : (0 ≤ s.toInt ∧ s.toInt ≤ 2) ∧ n.toInt ≤ 16) (h3 : ¬ n.toInt < 0) : n = kln a s n := by unfold kln; rw [if_pos h, if_pos h2, if_neg h3]
set_option maxHeartbeats 4000000 in
set_option maxRecDepth 100000 in
theorem c_X11_lineAt_tx (l : Launch) (G : q_G) (σ : q_S) (a0 : Nat) (h0 : q_T G a0 = 26) (i1 : Int32)  : Met l yX11_lineAt (Cond.code yX11_lineAt cX11_lineAt 2 (some (.object "CloudLaundry$Line")) :: wsL_law) (q_Rm 1) (q_Pre G σ [.ref a0, .int i1]) (q_Qq G [] σ (fun r σ1 => (∀ b, r = some b → q_T G b = 23) ∧ (r = none → ¬ (0 ≤ i1.toInt ∧ i1.toInt ≤ 2)) ∧ (r ≠ none → 0 ≤ i1.toInt ∧ i1.toInt ≤ 2))) 0 0 (q_N G) := by
  refine q_ofW (ts := []) (by decide) (Nat.le_of_ble_eq_true rfl) ?_
  intro p e s m args below meth c hE hr hlocks hW ls hl
  have hE : q_E G p s m args c cX11_lineAt 2 RX11 := hE
  have hx := hE.1.1
  have hb := hE.1.2.1
  have hl : lv_has ls 2 [(0, .ref a0), (1, .int i1)] := hl
  refine lv_iload_n hx hb dX11_lineAt_0 rfl (lv_at hl 1 rfl) ?_
  refine lv_if_lt (tgt := 9) hx hb dX11_lineAt_1 (by decide) (fun kc1 => ?_) (fun kc1 => ?_)
  · have kv2 : q_V (-2147483648) (-1) i1 := (q_lt1 (q_all i1) (q_c (k := 0) (x := 0) (by decide)) kc1).w (by decide) (by decide)
    refine lv_null hx hb dX11_lineAt_9 ?_
    refine lv_goto (tgt := 19) hx hb dX11_lineAt_10 (by decide) ?_
    exact q_retq none hE hr hlocks hW (⟨(fun _ h => by cases h), (fun _ => by have := kv2.1; have := kv2.2; omega), (fun q_h => absurd rfl q_h)⟩) dX11_lineAt_19
  · have kv3 : q_V 0 2147483647 i1 := (q_le2 (q_c (k := 0) (x := 0) (by decide)) (q_all i1) (Int32.not_lt.mp kc1)).w (by decide) (by decide)
    refine lv_iload_n hx hb dX11_lineAt_4 rfl (lv_at hl 1 rfl) ?_
    refine lv_iconst (v := 3) hx hb dX11_lineAt_5 (by decide) ?_
    refine lv_icmp_lt (tgt := 13) hx hb dX11_lineAt_6 (by decide) (fun kc4 => ?_) (fun kc4 => ?_)
    · have kv5 : q_V 0 2 i1 := (q_lt1 kv3 (q_c (k := 3) (x := 3) (by decide)) kc4).w (by decide) (by decide)
      refine lv_aload_n hx hb dX11_lineAt_13 rfl (lv_at hl 0 rfl) ?_
      refine q_getr hE hW h0 rfl q_k11 18 (by decide) rfl (hE.l wl_56) dX11_lineAt_14 (fun kb6 ekb6 hkb6a hkb6b => ?_)
      have hkb6 : q_T G kb6 = 36 := q_tag hkb6a hkb6b
      refine lv_iload_n hx hb dX11_lineAt_17 rfl (lv_at hl 1 rfl) ?_
      refine q_aald hE hW hkb6 rfl (q_in kv5 (by decide) (by decide)) dX11_lineAt_18 (fun kb7 ekb7 hkb7a hkb7b => ?_)
      have hkb7 : q_T G kb7 = 23 := q_tag hkb7a hkb7b
      exact q_retq (some kb7) hE hr hlocks hW (⟨(fun _ h => by cases h; exact hkb7), (fun q_h => by cases q_h), (fun _ => by have := kv5.1; have := kv5.2; omega)⟩) dX11_lineAt_19
    · have kv8 : q_V 3 2147483647 i1 := (q_le2 (q_c (k := 3) (x := 3) (by decide)) kv3 (Int32.not_lt.mp kc4)).w (by decide) (by decide)
      refine lv_null hx hb dX11_lineAt_9 ?_
      refine lv_goto (tgt := 19) hx hb dX11_lineAt_10 (by decide) ?_
      exact q_retq none hE hr hlocks hW (⟨(fun _ h => by cases h), (fun _ => by have := kv8.1; have := kv8.2; omega), (fun q_h => absurd rfl q_h)⟩) dX11_lineAt_19
set_option maxHeartbeats 4000000 in
set_option maxRecDepth 100000 in
theorem c_X12_isRow_tx (l : Launch) (G : q_G) (σ : q_S) (i1 : Int32)  : Met l yX12_isRow (Cond.code yX12_isRow cX12_isRow 1 (some .boolean) :: wsL_law) (q_Rm 2) (q_Pre G σ [.int i1]) (q_Qi G [] σ (fun r σ1 => q_V 0 1 r ∧ (r ≠ 0 → q_V 0 2 i1) ∧ (r = 0 → ¬ (0 ≤ i1.toInt ∧ i1.toInt ≤ 2)))) 0 0 (q_N G) := by
  refine q_ofW (ts := []) (by decide) (Nat.le_of_ble_eq_true rfl) ?_
  intro p e s m args below meth c hE hr hlocks hW ls hl
  have hE : q_E G p s m args c cX12_isRow 1 RX12 := hE
  have hx := hE.1.1
  have hb := hE.1.2.1
  have hl : lv_has ls 1 [(0, .int i1)] := hl
  refine lv_iload_n hx hb dX12_isRow_0 rfl (lv_at hl 0 rfl) ?_
  refine lv_i2l (v := i1.toInt64) hx hb dX12_isRow_1 rfl ?_
  refine lv_lconst (v := 0) hx hb dX12_isRow_2 (by decide) ?_
  refine lv_ldc2 (v := 2) hx hb hE.1.2.2.2.1 (hE.w wl_977) dX12_isRow_3 ?_
  refine q_goi hW (q_runS (As := [.long (i1).toInt64, .long 0, .long 2]) (rest := []) hE hW (c_X12_in l G σ ((i1).toInt64) 0 2) kw_X12_99 rfl hl.1 rfl (Nat.le_of_ble_eq_true rfl) dX12_isRow_6 ⟨by decide, by decide⟩ ⟨by decide, by decide⟩) (by decide) (fun kx4 ks2 H locs kp1 kf3 hW => ?_)
  exact q_retz hE hr hlocks hW (q_01 kp1.1) (⟨kp1.1, (fun q_h => (q_inV (kp1.2.1 q_h).1 (kp1.2.1 q_h).2 (q_lc (k := 0) (x := 0) (by decide)) (q_lc (k := 2) (x := 2) (by decide))).w (by decide) (by decide)), (fun q_h => q_nin (kp1.2.2 q_h) (q_lc (k := 0) (x := 0) (by decide)) (q_lc (k := 2) (x := 2) (by decide)))⟩) dX12_isRow_9
set_option maxHeartbeats 4000000 in
set_option maxRecDepth 100000 in
theorem c_X11_line_tx (l : Launch) (G : q_G) (σ : q_S) (a0 : Nat) (h0 : q_T G a0 = 26) (i1 : Int32) (i2 : Int32) (i3 : Int32)  : Met l yX11_line (Cond.code yX11_line cX11_line 5 (some .int) :: wsL_law) (q_Rm 3) (q_Pre G σ [.ref a0, .int i1, .int i2, .int i3]) (q_Qi G [23, 24] σ (fun r σ1 => q_V (-2147483648) 2147483647 r ∧ r = kln i1 i2 i3)) 0 0 (q_N G) := by
  refine q_ofW (ts := [23, 24]) (by decide) (Nat.le_of_ble_eq_true rfl) ?_
  intro p e s m args below meth c hE hr hlocks hW ls hl
  have hE : q_E G p s m args c cX11_line 5 RX11 := hE
  have hx := hE.1.1
  have hb := hE.1.2.1
  have hl : lv_has ls 5 [(0, .ref a0), (1, .int i1), (2, .int i2), (3, .int i3)] := hl
  refine lv_aload_n hx hb dX11_line_0 rfl (lv_at hl 0 rfl) ?_
  refine lv_iload_n hx hb dX11_line_1 rfl (lv_at hl 1 rfl) ?_
  refine q_goq hW (q_runV (As := [.int i1]) (rest := []) hE hW (c_X11_lineAt_tx l G σ a0 h0 i1) kw_X11_272 (q_recv hE hW h0 rfl q_k11) rfl hl.1 rfl (Nat.le_of_ble_eq_true rfl) dX11_line_2 ⟨by decide, by decide⟩ ⟨by decide, by decide⟩) (by decide) (fun ks2 H locs kp1 kf3 hW => ?_) (fun kb4 ks2 H locs kp1 kf3 hW => ?_)
  · refine lv_astoreN (lv' := [(4, .null), (0, .ref a0), (1, .int i1), (2, .int i2), (3, .int i3)]) hx hb dX11_line_5 hl (by decide) rfl (fun ls hl => ?_)
    refine lv_aloadN hx hb dX11_line_7 (lv_at hl 0 rfl) ?_
    refine lv_ifnonnullN hx hb dX11_line_9 ?_
    refine lv_bipush (v := (-2)) hx hb dX11_line_12 (by decide) ?_
    exact q_reti hE hr hlocks hW (⟨((q_c (k := (-2)) (x := (-2)) (by decide)).w (by decide) (by decide)), (by have := (kp1.2.1 rfl); exact kln_u (by omega))⟩) dX11_line_14
  · have hkb4 : q_T G kb4 = 23 := kp1.1 kb4 rfl
    have kv5 : q_V 0 2 i1 := kp1.2.2 (fun q_h => by cases q_h)
    refine lv_astore (lv' := [(4, .ref kb4), (0, .ref a0), (1, .int i1), (2, .int i2), (3, .int i3)]) hx hb dX11_line_5 hl (by decide) rfl (fun ls hl => ?_)
    refine lv_aload hx hb dX11_line_7 (lv_at hl 0 rfl) ?_
    refine lv_ifnonnull hx hb dX11_line_9 (tgt := 15) (by decide) ?_
    refine lv_iload_n hx hb dX11_line_15 rfl (lv_at hl 3 rfl) ?_
    refine lv_if_lt (tgt := 30) hx hb dX11_line_16 (by decide) (fun kc6 => ?_) (fun kc6 => ?_)
    · have kv7 : q_V (-2147483648) (-1) i2 := (q_lt1 (q_all i2) (q_c (k := 0) (x := 0) (by decide)) kc6).w (by decide) (by decide)
      refine lv_bipush (v := (-3)) hx hb dX11_line_30 (by decide) ?_
      exact q_reti hE hr hlocks hW (⟨((q_c (k := (-3)) (x := (-3)) (by decide)).w (by decide) (by decide)), (by have := kv5.1; have := kv5.2; have := kv7.1; have := kv7.2; exact kln_o (by omega) (by omega))⟩) dX11_line_32
    · have kv8 : q_V 0 2147483647 i2 := (q_le2 (q_c (k := 0) (x := 0) (by decide)) (q_all i2) (Int32.not_lt.mp kc6)).w (by decide) (by decide)
      refine lv_iload_n hx hb dX11_line_19 rfl (lv_at hl 3 rfl) ?_
      refine lv_iconst (v := 2) hx hb dX11_line_20 (by decide) ?_
      refine lv_icmp_gt (tgt := 30) hx hb dX11_line_21 (by decide) (fun kc9 => ?_) (fun kc9 => ?_)
      · have kv10 : q_V 3 2147483647 i2 := (q_lt2 (q_c (k := 2) (x := 2) (by decide)) kv8 kc9).w (by decide) (by decide)
        refine lv_bipush (v := (-3)) hx hb dX11_line_30 (by decide) ?_
        exact q_reti hE hr hlocks hW (⟨((q_c (k := (-3)) (x := (-3)) (by decide)).w (by decide) (by decide)), (by have := kv5.1; have := kv5.2; have := kv10.1; have := kv10.2; exact kln_o (by omega) (by omega))⟩) dX11_line_32
      · have kv11 : q_V 0 2 i2 := (q_le1 kv8 (q_c (k := 2) (x := 2) (by decide)) (Int32.not_lt.mp kc9)).w (by decide) (by decide)
        refine lv_iload_n hx hb dX11_line_24 rfl (lv_at hl 4 rfl) ?_
        refine lv_bipush (v := 16) hx hb dX11_line_25 (by decide) ?_
        refine lv_icmp_le (tgt := 33) hx hb dX11_line_27 (by decide) (fun kc12 => ?_) (fun kc12 => ?_)
        · have kv13 : q_V (-2147483648) 16 i3 := (q_le1 (q_all i3) (q_c (k := 16) (x := 16) (by decide)) kc12).w (by decide) (by decide)
          refine lv_iload_n hx hb dX11_line_33 rfl (lv_at hl 4 rfl) ?_
          refine lv_if_ge (tgt := 40) hx hb dX11_line_34 (by decide) (fun kc14 => ?_) (fun kc14 => ?_)
          · have kv15 : q_V 0 16 i3 := (q_le2 (q_c (k := 0) (x := 0) (by decide)) kv13 kc14).w (by decide) (by decide)
            refine lv_aload hx hb dX11_line_40 (lv_at hl 0 rfl) ?_
            refine lv_iload_n hx hb dX11_line_42 rfl (lv_at hl 3 rfl) ?_
            refine lv_iload_n hx hb dX11_line_43 rfl (lv_at hl 4 rfl) ?_
            refine q_gov hW (q_runV (As := [.int i2, .int i3]) (rest := []) hE hW (c_X5_stretch l G ks2 kb4 hkb4 i2 i3 kv15) kw_X11_276 (q_recv hE hW hkb4 rfl q_k5) rfl hl.1 rfl (Nat.le_of_ble_eq_true rfl) dX11_line_44 ⟨by decide, by decide⟩ ⟨by decide, by decide⟩) (by decide) (fun ks17 H locs kp16 kf18 hW => ?_)
            refine lv_iload_n hx hb dX11_line_47 rfl (lv_at hl 4 rfl) ?_
            exact q_reti hE hr hlocks hW (⟨(kv15.w (by decide) (by decide)), (by have := kv5.1; have := kv5.2; have := kv11.1; have := kv11.2; have := kv15.1; have := kv15.2; exact kln_n (by omega) (by omega) (by omega))⟩) dX11_line_48
          · have kv19 : q_V (-2147483648) (-1) i3 := (q_lt1 kv13 (q_c (k := 0) (x := 0) (by decide)) (Int32.not_le.mp kc14)).w (by decide) (by decide)
            refine lv_bipush (v := (-16)) hx hb dX11_line_37 (by decide) ?_
            exact q_reti hE hr hlocks hW (⟨((q_c (k := (-16)) (x := (-16)) (by decide)).w (by decide) (by decide)), (by have := kv5.1; have := kv5.2; have := kv11.1; have := kv11.2; have := kv19.1; have := kv19.2; exact kln_z (by omega) (by omega) (by omega))⟩) dX11_line_39
        · have kv20 : q_V 17 2147483647 i3 := (q_lt2 (q_c (k := 16) (x := 16) (by decide)) (q_all i3) (Int32.not_le.mp kc12)).w (by decide) (by decide)
          refine lv_bipush (v := (-3)) hx hb dX11_line_30 (by decide) ?_
          exact q_reti hE hr hlocks hW (⟨((q_c (k := (-3)) (x := (-3)) (by decide)).w (by decide) (by decide)), (by have := kv5.1; have := kv5.2; have := kv11.1; have := kv11.2; have := kv20.1; have := kv20.2; exact kln_o (by omega) (by omega))⟩) dX11_line_32
set_option maxHeartbeats 4000000 in
set_option maxRecDepth 100000 in
theorem c_X12_line_tx (l : Launch) (G : q_G) (σ : q_S) (a0 : Nat) (h0 : q_T G a0 = 40) (i1 : Int32) (i2 : Int32) (i3 : Int32)  : Met l yX12_line (Cond.code yX12_line cX12_line 5 (some .int) :: wsL_law) (q_Rm 3) (q_Pre G σ [.ref a0, .int i1, .int i2, .int i3]) (q_Qi G [63, 64, 65, 66] σ (fun r σ1 => q_V (-2147483648) 2147483647 r ∧ r = kln i1 i2 i3)) 0 0 (q_N G) := by
  refine q_ofW (ts := [63, 64, 65, 66]) (by decide) (Nat.le_of_ble_eq_true rfl) ?_
  intro p e s m args below meth c hE hr hlocks hW ls hl
  have hE : q_E G p s m args c cX12_line 5 RX12 := hE
  have hx := hE.1.1
  have hb := hE.1.2.1
  have hl : lv_has ls 5 [(0, .ref a0), (1, .int i1), (2, .int i2), (3, .int i3)] := hl
  have lp62a : ∀ (n62a : Nat) (ks5 : q_S) (H : Heap) (locs : List Loc) (kv1 : q_V 0 2 i1) (kv2 : q_V 0 2 i2) (kv3 : q_V 0 16 i3) (kx4 : Int32) (vkx4 : q_V 0 16 kx4) (hW : q_Wd G [63, 64, 65, 66] σ s.heap ks5 H locs) (ls : Array Slot) (hl : lv_has ls 5 [(0, .ref a0), (1, .int i1), (2, .int i2), (3, .int i3), (4, .int kx4)]), (16 - kx4.toInt).toNat < n62a → W p l e (q_Rm 3) s m args below meth c H locs 0 0 (MQ below (q_Qi G [63, 64, 65, 66] σ (fun r σ1 => q_V (-2147483648) 2147483647 r ∧ r = kln i1 i2 i3)) args s 0 0 (q_N G)) (F0 m 62 ls []) := by
    intro n62a
    induction n62a with
    | zero => intro _ _ _ _ _ _ _ _ _ _ _; exact fun h => absurd h (Nat.not_lt_zero _)
    | succ n62a ih62a =>
      intro ks5 H locs kv1 kv2 kv3 kx4 vkx4 hW ls hl hm62a
      refine lv_iload hx hb dX12_line_62 (lv_at hl 4 rfl) ?_
      refine lv_iload_n hx hb dX12_line_64 rfl (lv_at hl 3 rfl) ?_
      refine lv_icmp_ge (tgt := 87) hx hb dX12_line_65 (by decide) (fun kc6 => ?_) (fun kc6 => ?_)
      · refine lv_iload_n hx hb dX12_line_87 rfl (lv_at hl 3 rfl) ?_
        exact q_reti hE hr hlocks hW (⟨(kv3.w (by decide) (by decide)), (by have := kv1.1; have := kv1.2; have := kv2.1; have := kv2.2; have := kv3.1; have := kv3.2; exact kln_n (by omega) (by omega) (by omega))⟩) dX12_line_88
      · have kv7 : q_V 0 15 kx4 := (q_lt1 vkx4 kv3 (Int32.not_le.mp kc6)).w (by decide) (by decide)
        have kv8 : q_V 1 16 i3 := (q_lt2 vkx4 kv3 (Int32.not_le.mp kc6)).w (by decide) (by decide)
        refine lv_aload_n hx hb dX12_line_68 rfl (lv_at hl 0 rfl) ?_
        refine q_getr hE hW h0 rfl q_k12 42 (by decide) rfl (hE.l wl_155) dX12_line_69 (fun kb9 ekb9 hkb9a hkb9b => ?_)
        have hkb9 : q_T G kb9 = 66 := q_tag hkb9a hkb9b
        refine lv_bipush (v := 16) hx hb dX12_line_72 (by decide) ?_
        refine lv_iload_n hx hb dX12_line_74 rfl (lv_at hl 1 rfl) ?_
        refine lv_imul hx hb dX12_line_75 ?_
        refine lv_topi (fun kx10 ekx10 => ?_)
        have vkx10 : q_V 0 32 kx10 := by rw [ekx10]; exact (q_mul (k := 16) (by decide) kv1 (by decide) (by decide) (by decide)).w (by decide) (by decide)
        refine lv_iload hx hb dX12_line_76 (lv_at hl 4 rfl) ?_
        refine lv_iadd hx hb dX12_line_78 ?_
        refine lv_topi (fun kx11 ekx11 => ?_)
        have vkx11 : q_V 0 47 kx11 := by rw [ekx11]; exact (q_add vkx10 kv7 (by decide) (by decide)).w (by decide) (by decide)
        refine lv_iconst (v := 0) hx hb dX12_line_79 (by decide) ?_
        refine q_iast hE hW hkb9 rfl (q_in vkx11 (by decide) (by decide)) (q_pegO (q_c (k := 0) (x := 0) (by decide)) (by decide) (by decide)) (by decide) dX12_line_80 (fun H locs ks12 kp13 hW => ?_)
        obtain ⟨kx14, ekx14⟩ : ∃ y : Int32, y = kx4 + 1 := ⟨_, rfl⟩
        have vkx14 : q_V 1 16 kx14 := by rw [ekx14]; exact (q_add kv7 (q_c (k := 1) (x := 1) (by decide)) (by decide) (by decide)).w (by decide) (by decide)
        have ikx14 : kx14.toInt = kx4.toInt + 1 := q_incT ekx14 kv7 (by decide) (by decide) (by decide)
        refine lv_iinc (v := kx14) (lv' := [(4, .int kx14), (0, .ref a0), (1, .int i1), (2, .int i2), (3, .int i3)]) hx hb dX12_line_81 hl (k := 4) rfl (by rw [ekx14]; rfl) (by decide) rfl (fun ls hl => ?_)
        refine lv_goto (tgt := 62) hx hb dX12_line_84 (by decide) ?_
        exact ih62a _ _ _ kv1 kv2 (kv8.w (by decide) (by decide)) kx14 (vkx14.w (by decide) (by decide)) hW ls (lv_sub hl [1, 2, 3, 4, 0] rfl) (Nat.lt_of_lt_of_le (q_up (ikx14) (show q_V 1 16 kx14 from vkx14).2) (Nat.le_of_lt_succ hm62a))
  refine lv_iload_n hx hb dX12_line_0 rfl (lv_at hl 1 rfl) ?_
  refine q_goi hW (q_runS (As := [.int i1]) (rest := []) hE hW (c_X12_isRow_tx l G σ i1) kw_X12_354 rfl hl.1 rfl (Nat.le_of_ble_eq_true rfl) dX12_line_1 ⟨by decide, by decide⟩ ⟨by decide, by decide⟩) (by decide) (fun kx18 ks16 H locs kp15 kf17 hW => ?_)
  refine lv_if_ne (tgt := 10) hx hb dX12_line_4 (by decide) (fun kc19 => ?_) (fun kc19 => ?_)
  · have kv20 : q_V 0 2 i1 := kp15.2.1 kc19
    have kv21 : q_V 1 1 kx18 := q_ne1 kp15.1 (q_c (k := 0) (x := 0) (by decide)) kc19 (by decide)
    refine lv_iload_n hx hb dX12_line_10 rfl (lv_at hl 2 rfl) ?_
    refine lv_i2l (v := i2.toInt64) hx hb dX12_line_11 rfl ?_
    refine lv_lconst (v := 0) hx hb dX12_line_12 (by decide) ?_
    refine lv_ldc2 (v := 2) hx hb hE.1.2.2.2.1 (hE.w wl_977) dX12_line_13 ?_
    refine q_goi hW (q_runS (As := [.long (i2).toInt64, .long 0, .long 2]) (rest := []) hE hW (c_X12_in l G ks16 ((i2).toInt64) 0 2) kw_X12_99 rfl hl.1 rfl (Nat.le_of_ble_eq_true rfl) dX12_line_16 ⟨by decide, by decide⟩ ⟨by decide, by decide⟩) (by decide) (fun kx25 ks23 H locs kp22 kf24 hW => ?_)
    refine lv_if_eq (tgt := 28) hx hb dX12_line_19 (by decide) (fun kc26 => ?_) (fun kc26 => ?_)
    · have kv27 : q_V 0 0 kx25 := q_eq1 kp22.1 (q_c (k := 0) (x := 0) (by decide)) kc26 (by decide) (by decide)
      refine lv_bipush (v := (-3)) hx hb dX12_line_28 (by decide) ?_
      exact q_reti hE hr hlocks hW (⟨((q_c (k := (-3)) (x := (-3)) (by decide)).w (by decide) (by decide)), (by have := kv20.1; have := kv20.2; have := (q_nin (kp22.2.2 kc26) (q_lc (k := 0) (x := 0) (by decide)) (q_lc (k := 2) (x := 2) (by decide))); exact kln_o (by omega) (by omega))⟩) dX12_line_30
    · have kv28 : q_V 0 2 i2 := q_inV (kp22.2.1 kc26).1 (kp22.2.1 kc26).2 (q_lc (k := 0) (x := 0) (by decide)) (q_lc (k := 2) (x := 2) (by decide))
      have kv29 : q_V 1 1 kx25 := q_ne1 kp22.1 (q_c (k := 0) (x := 0) (by decide)) kc26 (by decide)
      refine lv_iload_n hx hb dX12_line_22 rfl (lv_at hl 3 rfl) ?_
      refine lv_bipush (v := 16) hx hb dX12_line_23 (by decide) ?_
      refine lv_icmp_le (tgt := 31) hx hb dX12_line_25 (by decide) (fun kc30 => ?_) (fun kc30 => ?_)
      · have kv31 : q_V (-2147483648) 16 i3 := (q_le1 (q_all i3) (q_c (k := 16) (x := 16) (by decide)) kc30).w (by decide) (by decide)
        refine lv_iload_n hx hb dX12_line_31 rfl (lv_at hl 3 rfl) ?_
        refine lv_if_ge (tgt := 38) hx hb dX12_line_32 (by decide) (fun kc32 => ?_) (fun kc32 => ?_)
        · have kv33 : q_V 0 16 i3 := (q_le2 (q_c (k := 0) (x := 0) (by decide)) kv31 kc32).w (by decide) (by decide)
          refine lv_aload_n hx hb dX12_line_38 rfl (lv_at hl 0 rfl) ?_
          refine q_getr hE hW h0 rfl q_k12 39 (by decide) rfl (hE.l wl_152) dX12_line_39 (fun kb34 ekb34 hkb34a hkb34b => ?_)
          have hkb34 : q_T G kb34 = 63 := q_tag hkb34a hkb34b
          refine lv_iload_n hx hb dX12_line_42 rfl (lv_at hl 1 rfl) ?_
          refine lv_iconst (v := 1) hx hb dX12_line_43 (by decide) ?_
          refine q_zast hE hW hkb34 rfl (q_in kv20 (by decide) (by decide)) (q_narz ((q_c (k := 1) (x := 1) (by decide)).w (by decide) (by decide))) ((q_c (k := 1) (x := 1) (by decide)).w (by decide) (by decide)) (by decide) dX12_line_44 (fun H locs ks35 kp36 hW => ?_)
          refine lv_aload_n hx hb dX12_line_45 rfl (lv_at hl 0 rfl) ?_
          refine q_getr hE hW h0 rfl q_k12 40 (by decide) rfl (hE.l wl_153) dX12_line_46 (fun kb37 ekb37 hkb37a hkb37b => ?_)
          have hkb37 : q_T G kb37 = 64 := q_tag hkb37a hkb37b
          refine lv_iload_n hx hb dX12_line_49 rfl (lv_at hl 1 rfl) ?_
          refine lv_iload_n hx hb dX12_line_50 rfl (lv_at hl 2 rfl) ?_
          refine q_iast hE hW hkb37 rfl (q_in kv20 (by decide) (by decide)) trivial (by decide) dX12_line_51 (fun H locs ks38 kp39 hW => ?_)
          refine lv_aload_n hx hb dX12_line_52 rfl (lv_at hl 0 rfl) ?_
          refine q_getr hE hW h0 rfl q_k12 41 (by decide) rfl (hE.l wl_154) dX12_line_53 (fun kb40 ekb40 hkb40a hkb40b => ?_)
          have hkb40 : q_T G kb40 = 65 := q_tag hkb40a hkb40b
          refine lv_iload_n hx hb dX12_line_56 rfl (lv_at hl 1 rfl) ?_
          refine lv_iload_n hx hb dX12_line_57 rfl (lv_at hl 3 rfl) ?_
          refine q_iast hE hW hkb40 rfl (q_in kv20 (by decide) (by decide)) kv33 (by decide) dX12_line_58 (fun H locs ks41 kp42 hW => ?_)
          refine lv_iconst (v := 0) hx hb dX12_line_59 (by decide) ?_
          refine lv_istore (lv' := [(4, .int 0), (0, .ref a0), (1, .int i1), (2, .int i2), (3, .int i3)]) hx hb dX12_line_60 hl (by decide) rfl (fun ls hl => ?_)
          exact lp62a _ _ _ _ kv20 kv28 kv33 0 ((q_c (k := 0) (x := 0) (by decide)).w (by decide) (by decide)) hW ls (lv_sub hl [1, 2, 3, 4, 0] rfl) (Nat.lt_succ_self _)
        · have kv43 : q_V (-2147483648) (-1) i3 := (q_lt1 kv31 (q_c (k := 0) (x := 0) (by decide)) (Int32.not_le.mp kc32)).w (by decide) (by decide)
          refine lv_bipush (v := (-16)) hx hb dX12_line_35 (by decide) ?_
          exact q_reti hE hr hlocks hW (⟨((q_c (k := (-16)) (x := (-16)) (by decide)).w (by decide) (by decide)), (by have := kv20.1; have := kv20.2; have := kv28.1; have := kv28.2; have := kv43.1; have := kv43.2; exact kln_z (by omega) (by omega) (by omega))⟩) dX12_line_37
      · have kv44 : q_V 17 2147483647 i3 := (q_lt2 (q_c (k := 16) (x := 16) (by decide)) (q_all i3) (Int32.not_le.mp kc30)).w (by decide) (by decide)
        refine lv_bipush (v := (-3)) hx hb dX12_line_28 (by decide) ?_
        exact q_reti hE hr hlocks hW (⟨((q_c (k := (-3)) (x := (-3)) (by decide)).w (by decide) (by decide)), (by have := kv20.1; have := kv20.2; have := kv28.1; have := kv28.2; have := kv44.1; have := kv44.2; exact kln_o (by omega) (by omega))⟩) dX12_line_30
  · have kv45 : q_V 0 0 kx18 := q_eq1 kp15.1 (q_c (k := 0) (x := 0) (by decide)) kc19 (by decide) (by decide)
    refine lv_bipush (v := (-2)) hx hb dX12_line_7 (by decide) ?_
    exact q_reti hE hr hlocks hW (⟨((q_c (k := (-2)) (x := (-2)) (by decide)).w (by decide) (by decide)), (by have := (kp15.2.2 kc19); exact kln_u (by omega))⟩) dX12_line_9
