set_option maxHeartbeats 4000000 in
set_option maxRecDepth 100000 in
theorem c_J7_fill_53178_t10 (l : Launch) (G : q_G) (σ : q_S) (a1 : Nat) (h1 : q_T G a1 = 10) (i2 : Int32)  : Met l yJ7_fill_53178 (Cond.code yJ7_fill_53178 cJ7_fill_53178 4 none :: wsL_law) (q_Rm 1) (q_Pre G σ [.ref a1, .int i2]) (q_Qv G [10] σ (fun σ1 => True)) 0 0 (q_N G) := by
  refine q_ofW (ts := [10]) (by decide) (Nat.le_of_ble_eq_true rfl) ?_
  intro p e s m args below meth c hE hr hlocks hW ls hl
  have hE : q_E G p s m args c cJ7_fill_53178 4 RJ7 := hE
  have hx := hE.1.1
  have hb := hE.1.2.1
  have hl : lv_has ls 4 [(0, .ref a1), (1, .int i2)] := hl
  have lp5a : ∀ (n5a : Nat) (ks3 : q_S) (H : Heap) (locs : List Loc) (kx1 : Int32) (vkx1 : q_V 0 3 kx1) (kx2 : Int32) (vkx2 : q_V 3 3 kx2) (hW : q_Wd G [10] σ s.heap ks3 H locs) (ls : Array Slot) (hl : lv_has ls 4 [(0, .ref a1), (1, .int i2), (2, .int kx1), (3, .int kx2)]), (3 - kx1.toInt).toNat < n5a → W p l e (q_Rm 1) s m args below meth c H locs 0 0 (MQ below (q_Qv G [10] σ (fun σ1 => True)) args s 0 0 (q_N G)) (F0 m 5 ls []) := by
    intro n5a
    induction n5a with
    | zero => intro _ _ _ _ _ _ _ _ _ _; exact fun h => absurd h (Nat.not_lt_zero _)
    | succ n5a ih5a =>
      intro ks3 H locs kx1 vkx1 kx2 vkx2 hW ls hl hm5a
      refine lv_iload_n hx hb dJ7_fill_53178_5 rfl (lv_at hl 2 rfl) ?_
      refine lv_iload_n hx hb dJ7_fill_53178_6 rfl (lv_at hl 3 rfl) ?_
      refine lv_icmp_ge (tgt := 20) hx hb dJ7_fill_53178_7 (by decide) (fun kc4 => ?_) (fun kc4 => ?_)
      · have kv5 : q_V 3 3 kx1 := (q_le2 vkx2 vkx1 kc4).w (by decide) (by decide)
        exact q_retv hE hr hlocks hW (trivial) dJ7_fill_53178_20
      · have kv6 : q_V 0 2 kx1 := (q_lt1 vkx1 vkx2 (Int32.not_le.mp kc4)).w (by decide) (by decide)
        refine lv_aload_n hx hb dJ7_fill_53178_10 rfl (lv_at hl 0 rfl) ?_
        refine lv_iload_n hx hb dJ7_fill_53178_11 rfl (lv_at hl 2 rfl) ?_
        refine lv_iload_n hx hb dJ7_fill_53178_12 rfl (lv_at hl 1 rfl) ?_
        refine q_iast hE hW h1 rfl (q_in kv6 (by decide) (by decide)) trivial (by decide) dJ7_fill_53178_13 (fun H locs ks7 kp8 hW => ?_)
        obtain ⟨kx9, ekx9⟩ : ∃ y : Int32, y = kx1 + 1 := ⟨_, rfl⟩
        have vkx9 : q_V 1 3 kx9 := by rw [ekx9]; exact (q_add kv6 (q_c (k := 1) (x := 1) (by decide)) (by decide) (by decide)).w (by decide) (by decide)
        have ikx9 : kx9.toInt = kx1.toInt + 1 := q_incT ekx9 kv6 (by decide) (by decide) (by decide)
        refine lv_iinc (v := kx9) (lv' := [(2, .int kx9), (0, .ref a1), (1, .int i2), (3, .int kx2)]) hx hb dJ7_fill_53178_14 hl (k := 2) rfl (by rw [ekx9]; rfl) (by decide) rfl (fun ls hl => ?_)
        refine lv_goto (tgt := 5) hx hb dJ7_fill_53178_17 (by decide) ?_
        exact ih5a _ _ _ kx9 (vkx9.w (by decide) (by decide)) kx2 vkx2 hW ls (lv_sub hl [1, 2, 0, 3] rfl) (Nat.lt_of_lt_of_le (q_up (ikx9) (show q_V 1 3 kx9 from vkx9).2) (Nat.le_of_lt_succ hm5a))
  refine lv_iconst (v := 0) hx hb dJ7_fill_53178_0 (by decide) ?_
  refine lv_istore_n (lv' := [(2, .int 0), (0, .ref a1), (1, .int i2)]) hx hb dJ7_fill_53178_1 rfl hl (by decide) rfl (fun ls hl => ?_)
  refine lv_aload_n hx hb dJ7_fill_53178_2 rfl (lv_at hl 1 rfl) ?_
  refine q_aleni (v := 3) hE hW h1 rfl (by decide) dJ7_fill_53178_3 ?_
  refine lv_istore_n (lv' := [(3, .int 3), (2, .int 0), (0, .ref a1), (1, .int i2)]) hx hb dJ7_fill_53178_4 rfl hl (by decide) rfl (fun ls hl => ?_)
  exact lp5a _ _ _ _ 0 ((q_c (k := 0) (x := 0) (by decide)).w (by decide) (by decide)) 3 (q_c (k := 3) (x := 3) (by decide)) hW ls (lv_sub hl [2, 3, 1, 0] rfl) (Nat.lt_succ_self _)
