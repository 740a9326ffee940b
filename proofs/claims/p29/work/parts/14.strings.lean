/-! the String constants' own methods -/
section QSS
variable {p : Program} {l : Launch} {e : Env} {R : Room} {s : State} {m : MethodId} {args : Array Value} {below : List Frame} {meth : Method} {c : Code} {H : Heap} {locs : List Loc} {cells slots : Nat} {Q : State → Prop}
variable {cc bytes : ByteArray} {nL pc d maxL n index : Nat} {own C : String} {y : MethodName} {ret : Option FieldType} {ls : Array Slot} {As rest st0 : List Value} {G : q_G} {σ σ0 : q_S} {ts t1 : List Nat} {b k : Nat}
/-- a String constant as a receiver -/
theorem q_recvS (hE : q_E G p s m args c cc nL own) (hW : q_Wd G ts σ0 s.heap σ H locs) (hk : k < 9) : ∃ cell : Cell, H[q_aK G k]? = some cell ∧ cell.vm.isStatics = false ∧ s.vm.findClass RJ0 = some cell.cls := vk_recv hE.2.2.2.1 hk hW.2.2
theorem q_strF (hE : q_E G p s m args c cc nL own) (hk : k < 9) : va_OF "java/lang/String" "coder" "B" (.int 0) (q_aK G k) (q_N G) s s.heap ∧ va_OF "java/lang/String" "value" "[B" (.ref (q_aV G k)) (q_aK G k) (q_N G) s s.heap ∧ va_T .byte (q_aV G k) (q_len.getD k 0) (fun j => .int ((q_byt.getD k []).getD j 0)) (q_N G) s s.heap := (hE.2.2.2.1.1 k hk).2
theorem q_retb {post : Int32 → q_S → Prop} {v : Int32} (hE : q_E G p s m args c cc nL own) (hr : meth.sig.returnType = some .byte) (hlocks : meth.locks = false) (hW : q_Wd G ts σ0 s.heap σ H locs) (hz : narrow .byte (.int v) = .int v) (hp : post v σ) (hdg : decode cc pc = .ok (.ireturn, 1)) : W p l e R s m args below meth c H locs cells slots (MQ below (q_Qi G ts σ0 post) args s cells slots (q_N G)) (F0 m pc ls [.int v]) :=
  W.zret hE.1.1 hE.1.2.1 hr hz (fun t ht _ => ⟨⟨v, σ, rfl, ⟨hp, hW.2.1⟩, by show q_Ow G σ t.heap; rw [ht]; exact hW.1⟩, hW.2.2.F ht⟩) hW.2.2.2.2 hdg hlocks
end QSS
set_option maxHeartbeats 4000000 in
theorem c_J0_coder (l : Launch) (G : q_G) (σ : q_S) (k : Nat) (hk : k < 9) : Met l yJ0_coder_7d493 (Cond.code yJ0_coder_7d493 cJ0_coder_7d493 1 (some .byte) :: wsL_law) (q_Rm 1) (q_Pre G σ [.ref (q_aK G k)]) (q_Qi G [] σ (fun r σ1 => r = 0)) 0 0 (q_N G) := by
  refine q_ofW (ts := []) (by decide) (Nat.le_of_ble_eq_true rfl) ?_
  intro p e s m args below meth c hE hr hlocks hW ls hl
  have hE : q_E G p s m args c cJ0_coder_7d493 1 RJ0 := hE
  have hx := hE.1.1
  have hb := hE.1.2.1
  have hl : lv_has ls 1 [(0, .ref (q_aK G k))] := hl
  refine va_gets hx hb hE.2.2.2.2.2.1 hW.2.2 hE.1.2.2.2.1 (hE.w wl_244) (fun _ z => z) dJ0_coder_7d493_0 ?_
  refine lv_if_eq (tgt := 13) hx hb dJ0_coder_7d493_3 (by decide) (fun h => absurd h (by decide)) (fun _ => ?_)
  refine lv_aload_n hx hb dJ0_coder_7d493_6 rfl (lv_at hl 0 rfl) ?_
  refine vk_getf hx hb (q_strF hE hk).1 hW.2.2 hE.1.2.2.2.1 (hE.w wl_245) (fun _ z => z) dJ0_coder_7d493_7 ?_
  refine lv_goto (tgt := 14) hx hb dJ0_coder_7d493_10 (by decide) ?_
  exact q_retb hE hr hlocks hW rfl rfl dJ0_coder_7d493_14
set_option maxHeartbeats 4000000 in
theorem c_J0_isLatin1 (l : Launch) (G : q_G) (σ : q_S) (k : Nat) (hk : k < 9) : Met l yJ0_isLatin1_aae02 (Cond.code yJ0_isLatin1_aae02 cJ0_isLatin1_aae02 1 (some .boolean) :: wsL_law) (q_Rm 1) (q_Pre G σ [.ref (q_aK G k)]) (q_Qi G [] σ (fun r σ1 => r = 1)) 0 0 (q_N G) := by
  refine q_ofW (ts := []) (by decide) (Nat.le_of_ble_eq_true rfl) ?_
  intro p e s m args below meth c hE hr hlocks hW ls hl
  have hE : q_E G p s m args c cJ0_isLatin1_aae02 1 RJ0 := hE
  have hx := hE.1.1
  have hb := hE.1.2.1
  have hl : lv_has ls 1 [(0, .ref (q_aK G k))] := hl
  refine va_gets hx hb hE.2.2.2.2.2.1 hW.2.2 hE.1.2.2.2.1 (hE.w wl_244) (fun _ z => z) dJ0_isLatin1_aae02_0 ?_
  refine lv_if_eq (tgt := 17) hx hb dJ0_isLatin1_aae02_3 (by decide) (fun h => absurd h (by decide)) (fun _ => ?_)
  refine lv_aload_n hx hb dJ0_isLatin1_aae02_6 rfl (lv_at hl 0 rfl) ?_
  refine vk_getf hx hb (q_strF hE hk).1 hW.2.2 hE.1.2.2.2.1 (hE.w wl_245) (fun _ z => z) dJ0_isLatin1_aae02_7 ?_
  refine lv_if_ne (tgt := 17) hx hb dJ0_isLatin1_aae02_10 (by decide) (fun h => absurd rfl h) (fun _ => ?_)
  refine lv_iconst (v := 1) hx hb dJ0_isLatin1_aae02_13 (by decide) ?_
  refine lv_goto (tgt := 18) hx hb dJ0_isLatin1_aae02_14 (by decide) ?_
  exact q_retz hE hr hlocks hW (Or.inr rfl) rfl dJ0_isLatin1_aae02_18
set_option maxHeartbeats 4000000 in
theorem c_J0_length (l : Launch) (G : q_G) (σ : q_S) (k : Nat) (hk : k < 9) : Met l yJ0_length_8abf5 (Cond.code yJ0_length_8abf5 cJ0_length_8abf5 1 (some .int) :: wsL_law) (q_Rm 2) (q_Pre G σ [.ref (q_aK G k)]) (q_Qi G [] σ (fun r σ1 => r = nI (q_len.getD k 0))) 0 0 (q_N G) := by
  refine q_ofW (ts := []) (by decide) (Nat.le_of_ble_eq_true rfl) ?_
  intro p e s m args below meth c hE hr hlocks hW ls hl
  have hE : q_E G p s m args c cJ0_length_8abf5 1 RJ0 := hE
  have hx := hE.1.1
  have hb := hE.1.2.1
  have hl : lv_has ls 1 [(0, .ref (q_aK G k))] := hl
  refine lv_aload_n hx hb dJ0_length_8abf5_0 rfl (lv_at hl 0 rfl) ?_
  refine vk_getf hx hb (q_strF hE hk).2.1 hW.2.2 hE.1.2.2.2.1 (hE.w wl_239) (fun _ z => z) dJ0_length_8abf5_1 ?_
  refine va_tlen hx hb (q_strF hE hk).2.2 hW.2.2 rfl dJ0_length_8abf5_4 ?_
  refine lv_aload_n hx hb dJ0_length_8abf5_5 rfl (lv_at hl 0 rfl) ?_
  refine q_goi hW (q_runV (As := []) (rest := [.int (Int32.ofNat (q_len.getD k 0))]) hE hW (c_J0_coder l G σ k hk) ⟨q_goodV wl_240 wl_241 wl_242 wl_237 wl_243, rfl, by decide, by decide, by decide +kernel⟩ (q_recvS hE hW hk) rfl hl.1 rfl (Nat.le_of_ble_eq_true rfl) dJ0_length_8abf5_6 ⟨by decide, by decide⟩ ⟨by decide, by decide⟩) (by decide) (fun r σ1 H locs hp hf hW => ?_)
  subst hp
  refine lv_ishr hx hb dJ0_length_8abf5_9 ?_
  refine lv_eqi (y := nI (q_len.getD k 0)) ?_ ?_
  · rcases (show k = 0 ∨ k = 1 ∨ k = 2 ∨ k = 3 ∨ k = 4 ∨ k = 5 ∨ k = 6 ∨ k = 7 ∨ k = 8 by omega) with rfl | rfl | rfl | rfl | rfl | rfl | rfl | rfl | rfl <;> decide
  · exact q_reti hE hr hlocks hW rfl dJ0_length_8abf5_10
set_option maxHeartbeats 4000000 in
theorem c_J3_checkIndex (l : Launch) (G : q_G) (σ : q_S) (i n : Int32) (v : Value) (hv : v = .null ∨ ∃ t, v = .ref t) (h0 : 0 ≤ i) (h1 : i < n) : Met l yJ3_checkIndex_8e157 (Cond.code yJ3_checkIndex_8e157 cJ3_checkIndex_8e157 3 (some .int) :: wsL_law) (q_Rm 1) (q_Pre G σ [.int i, .int n, v]) (q_Qi G [] σ (fun r σ1 => True)) 0 0 (q_N G) := by
  rcases hv with rfl | ⟨t, rfl⟩
  · refine q_ofW (ts := []) (by decide) (Nat.le_of_ble_eq_true rfl) ?_
    intro p e s m args below meth c hE hr hlocks hW ls hl
    have hE : q_E G p s m args c cJ3_checkIndex_8e157 3 RJ3 := hE
    have hx := hE.1.1
    have hb := hE.1.2.1
    have hl : lv_has ls 3 [(0, .int i), (1, .int n), (2, .null)] := hl
    refine lv_iload_n hx hb dJ3_checkIndex_8e157_0 rfl (lv_at hl 0 rfl) ?_
    refine lv_if_lt (tgt := 9) hx hb dJ3_checkIndex_8e157_1 (by decide) (fun h => absurd h (Int32.not_lt.mpr h0)) (fun _ => ?_)
    refine lv_iload_n hx hb dJ3_checkIndex_8e157_4 rfl (lv_at hl 0 rfl) ?_
    refine lv_iload_n hx hb dJ3_checkIndex_8e157_5 rfl (lv_at hl 1 rfl) ?_
    refine lv_icmp_lt (tgt := 16) hx hb dJ3_checkIndex_8e157_6 (by decide) (fun _ => ?_) (fun h => absurd h1 h)
    refine lv_iload_n hx hb dJ3_checkIndex_8e157_16 rfl (lv_at hl 0 rfl) ?_
    exact q_reti hE hr hlocks hW trivial dJ3_checkIndex_8e157_17
  · refine q_ofW (ts := []) (by decide) (Nat.le_of_ble_eq_true rfl) ?_
    intro p e s m args below meth c hE hr hlocks hW ls hl
    have hE : q_E G p s m args c cJ3_checkIndex_8e157 3 RJ3 := hE
    have hx := hE.1.1
    have hb := hE.1.2.1
    have hl : lv_has ls 3 [(0, .int i), (1, .int n), (2, .ref t)] := hl
    refine lv_iload_n hx hb dJ3_checkIndex_8e157_0 rfl (lv_at hl 0 rfl) ?_
    refine lv_if_lt (tgt := 9) hx hb dJ3_checkIndex_8e157_1 (by decide) (fun h => absurd h (Int32.not_lt.mpr h0)) (fun _ => ?_)
    refine lv_iload_n hx hb dJ3_checkIndex_8e157_4 rfl (lv_at hl 0 rfl) ?_
    refine lv_iload_n hx hb dJ3_checkIndex_8e157_5 rfl (lv_at hl 1 rfl) ?_
    refine lv_icmp_lt (tgt := 16) hx hb dJ3_checkIndex_8e157_6 (by decide) (fun _ => ?_) (fun h => absurd h1 h)
    refine lv_iload_n hx hb dJ3_checkIndex_8e157_16 rfl (lv_at hl 0 rfl) ?_
    exact q_reti hE hr hlocks hW trivial dJ3_checkIndex_8e157_17
set_option maxHeartbeats 4000000 in
theorem c_J0_checkIndex (l : Launch) (G : q_G) (σ : q_S) (i n : Int32) (h0 : 0 ≤ i) (h1 : i < n) : Met l yJ0_checkIndex_df160 (Cond.code yJ0_checkIndex_df160 cJ0_checkIndex_df160 2 none :: wsL_law) (q_Rm 2) (q_Pre G σ [.int i, .int n]) (q_Qv G [] σ (fun σ1 => True)) 0 0 (q_N G) := by
  refine q_ofW (ts := []) (by decide) (Nat.le_of_ble_eq_true rfl) ?_
  intro p e s m args below meth c hE hr hlocks hW ls hl
  have hE : q_E G p s m args c cJ0_checkIndex_df160 2 RJ0 := hE
  have hx := hE.1.1
  have hb := hE.1.2.1
  have hl : lv_has ls 2 [(0, .int i), (1, .int n)] := hl
  refine lv_iload_n hx hb dJ0_checkIndex_df160_0 rfl (lv_at hl 0 rfl) ?_
  refine lv_iload_n hx hb dJ0_checkIndex_df160_1 rfl (lv_at hl 1 rfl) ?_
  have kk : ∀ v : Value, (v = .null ∨ ∃ t, v = .ref t) → W p l e (q_Rm 2) s m args below meth c s.heap [] 0 0 (MQ below (q_Qv G [] σ (fun σ1 => True)) args s 0 0 (q_N G)) (F0 m 5 ls [v, .int n, .int i]) := by
    intro v hv
    refine q_goi hW (q_runS (n := 3) (As := [.int i, .int n, v]) (rest := []) hE hW (c_J3_checkIndex l G σ i n v hv h0 h1) ⟨⟨wl_262, wl_263, wl_264, wl_265⟩, by decide, by decide, by decide +kernel⟩ rfl hl.1 rfl (Nat.le_of_ble_eq_true rfl) dJ0_checkIndex_df160_5 ⟨by decide, by decide⟩ ⟨by decide, by decide⟩) (by decide) (fun r σ1 H locs hp hf hW => ?_)
    refine lv_pop hx hb dJ0_checkIndex_df160_8 rfl ?_
    exact q_retv hE hr hlocks hW trivial dJ0_checkIndex_df160_9
  rcases hE.2.2.2.2.2.2 with hz | ⟨t, hz⟩
  · exact va_gets hx hb hz hW.2.2 hE.1.2.2.2.1 (hE.w wl_261) (fun _ z => z) dJ0_checkIndex_df160_2 (kk _ (Or.inl rfl))
  · exact va_gets hx hb hz hW.2.2 hE.1.2.2.2.1 (hE.w wl_261) (fun _ z => z) dJ0_checkIndex_df160_2 (kk _ (Or.inr ⟨t, rfl⟩))
set_option maxHeartbeats 4000000 in
theorem c_J1_charAt (l : Launch) (G : q_G) (σ : q_S) (k : Nat) (hk : k < 9) (i : Int32) (h0 : 0 ≤ i) (h1 : i < nI (q_len.getD k 0)) (hin : vp_in i (q_len.getD k 0)) : Met l yJ1_charAt_3b067 (Cond.code yJ1_charAt_3b067 cJ1_charAt_3b067 2 (some .char) :: wsL_law) (q_Rm 3) (q_Pre G σ [.ref (q_aV G k), .int i]) (q_Qi G [] σ (fun r σ1 => q_V 0 65535 r)) 0 0 (q_N G) := by
  refine q_ofW (ts := []) (by decide) (Nat.le_of_ble_eq_true rfl) ?_
  intro p e s m args below meth c hE hr hlocks hW ls hl
  have hE : q_E G p s m args c cJ1_charAt_3b067 2 RJ1 := hE
  have hx := hE.1.1
  have hb := hE.1.2.1
  have hl : lv_has ls 2 [(0, .ref (q_aV G k)), (1, .int i)] := hl
  refine lv_iload_n hx hb dJ1_charAt_3b067_0 rfl (lv_at hl 1 rfl) ?_
  refine lv_aload_n hx hb dJ1_charAt_3b067_1 rfl (lv_at hl 0 rfl) ?_
  refine va_tlen hx hb (q_strF hE hk).2.2 hW.2.2 (v := nI (q_len.getD k 0)) rfl dJ1_charAt_3b067_2 ?_
  refine q_gov hW (q_runS (n := 2) (As := [.int i, .int (nI (q_len.getD k 0))]) (rest := []) hE hW (c_J0_checkIndex l G σ i _ h0 h1) ⟨⟨wl_258, wl_259, wl_237, wl_260⟩, by decide, by decide, by decide +kernel⟩ rfl hl.1 rfl (Nat.le_of_ble_eq_true rfl) dJ1_charAt_3b067_3 ⟨by decide, by decide⟩ ⟨by decide, by decide⟩) (by decide) (fun σ1 H locs hp hf hW => ?_)
  refine lv_aload_n hx hb dJ1_charAt_3b067_6 rfl (lv_at hl 0 rfl) ?_
  refine lv_iload_n hx hb dJ1_charAt_3b067_7 rfl (lv_at hl 1 rfl) ?_
  refine va_tb hx hb (q_strF hE hk).2.2 hW.2.2 hin rfl dJ1_charAt_3b067_8 ?_
  refine lv_sipush (v := 255) hx hb dJ1_charAt_3b067_9 (by decide) ?_
  refine lv_iand hx hb dJ1_charAt_3b067_12 ?_
  refine lv_i2c hx hb dJ1_charAt_3b067_13 rfl ?_
  exact q_retc hE hr hlocks hW (q_nc (q_i2c _)) (q_i2c _) dJ1_charAt_3b067_14
set_option maxHeartbeats 4000000 in
theorem c_J0_charAt (l : Launch) (G : q_G) (σ : q_S) (k : Nat) (hk : k < 9) (i : Int32) (h0 : 0 ≤ i) (h1 : i < nI (q_len.getD k 0)) (hin : vp_in i (q_len.getD k 0)) : Met l yJ0_charAt_5068e (Cond.code yJ0_charAt_5068e cJ0_charAt_5068e 2 (some .char) :: wsL_law) (q_Rm 4) (q_Pre G σ [.ref (q_aK G k), .int i]) (q_Qi G [] σ (fun r σ1 => q_V 0 65535 r)) 0 0 (q_N G) := by
  refine q_ofW (ts := []) (by decide) (Nat.le_of_ble_eq_true rfl) ?_
  intro p e s m args below meth c hE hr hlocks hW ls hl
  have hE : q_E G p s m args c cJ0_charAt_5068e 2 RJ0 := hE
  have hx := hE.1.1
  have hb := hE.1.2.1
  have hl : lv_has ls 2 [(0, .ref (q_aK G k)), (1, .int i)] := hl
  refine lv_aload_n hx hb dJ0_charAt_5068e_0 rfl (lv_at hl 0 rfl) ?_
  refine q_goi hW (q_runV (As := []) (rest := []) hE hW (c_J0_isLatin1 l G σ k hk) ⟨q_goodV wl_250 wl_251 wl_252 wl_237 wl_253, rfl, by decide, by decide, by decide +kernel⟩ (q_recvS hE hW hk) rfl hl.1 rfl (Nat.le_of_ble_eq_true rfl) dJ0_charAt_5068e_1 ⟨by decide, by decide⟩ ⟨by decide, by decide⟩) (by decide) (fun r σ1 H locs hp hf hW => ?_)
  subst hp
  refine lv_if_eq (tgt := 16) hx hb dJ0_charAt_5068e_4 (by decide) (fun h => absurd h (by decide)) (fun _ => ?_)
  refine lv_aload_n hx hb dJ0_charAt_5068e_7 rfl (lv_at hl 0 rfl) ?_
  refine vk_getf hx hb (q_strF hE hk).2.1 hW.2.2 hE.1.2.2.2.1 (hE.w wl_239) (fun _ z => z) dJ0_charAt_5068e_8 ?_
  refine lv_iload_n hx hb dJ0_charAt_5068e_11 rfl (lv_at hl 1 rfl) ?_
  refine q_goi hW (q_runS (n := 2) (As := [.ref (q_aV G k), .int i]) (rest := []) hE hW (c_J1_charAt l G σ1 k hk i h0 h1 hin) ⟨⟨wl_254, wl_255, wl_256, wl_257⟩, by decide, by decide, by decide +kernel⟩ rfl hl.1 rfl (Nat.le_of_ble_eq_true rfl) dJ0_charAt_5068e_12 ⟨by decide, by decide⟩ ⟨by decide, by decide⟩) (by decide) (fun r σ1 H locs hp hf hW => ?_)
  exact q_retc hE hr hlocks hW (q_nc hp) hp dJ0_charAt_5068e_15
theorem q_lenV {k : Nat} (hk : k < 9) : q_V 3 7 (nI (q_len.getD k 0)) := by
  rcases (show k = 0 ∨ k = 1 ∨ k = 2 ∨ k = 3 ∨ k = 4 ∨ k = 5 ∨ k = 6 ∨ k = 7 ∨ k = 8 by omega) with rfl | rfl | rfl | rfl | rfl | rfl | rfl | rfl | rfl <;> exact ⟨by decide, by decide⟩
theorem q_lenN {k : Nat} (hk : k < 9) : q_len.getD k 0 ≤ 7 := by
  rcases (show k = 0 ∨ k = 1 ∨ k = 2 ∨ k = 3 ∨ k = 4 ∨ k = 5 ∨ k = 6 ∨ k = 7 ∨ k = 8 by omega) with rfl | rfl | rfl | rfl | rfl | rfl | rfl | rfl | rfl <;> decide
theorem q_inS {k : Nat} {i : Int32} {a b : Int} (hk : k < 9) (hi : q_V a b i) (h0 : 0 ≤ a) (h : i < nI (q_len.getD k 0)) : 0 ≤ i ∧ vp_in i (q_len.getD k 0) := by
  have h1 := Int32.lt_iff_toInt_lt.mp h
  have h2 := q_lenN hk
  rw [nI_toInt (by omega)] at h1
  refine ⟨Int32.le_iff_toInt_le.mpr (by have := hi.1; simp; omega), vp_in_iff.mpr ⟨by have := hi.1; omega, h1⟩⟩
theorem q_neS {k : Nat} {x y z A B : Int32} (hk : k < 9) (ez : z = x - y) (c : z = nI (q_len.getD k 0)) (e4 : A = x) (e3 : B = y) : ¬ A = B := by
  intro h
  have h1 := (q_lenV hk).1
  rw [← c, ez, ← e4, ← e3, h, Int32.sub_self] at h1
  exact absurd h1 (by decide)
