theorem kw_X12_128 : q_wV RX12 RX12 128 yX12_isSmall cX12_isSmall 2 (some .boolean) 1 := ⟨q_goodV wl_371 wl_372 wl_373 wl_5 wl_374, rfl, by decide, by decide, by decide +kernel⟩
theorem kw_X12_132 : q_wV RX12 RX12 132 yX12_isDigit cX12_isDigit 2 (some .boolean) 1 := ⟨q_goodV wl_377 wl_378 wl_379 wl_5 wl_380, rfl, by decide, by decide, by decide +kernel⟩
theorem kw_X12_163 : q_wV RX12 RX12 163 yX12_next cX12_next 2 none 0 := ⟨q_goodV wl_365 wl_366 wl_367 wl_5 wl_368, rfl, by decide, by decide, by decide +kernel⟩
theorem kw_X12_166 : q_wV RX12 RX12 166 yX12_takes0 cX12_takes0 3 (some .boolean) 2 := ⟨q_goodV wl_406 wl_407 wl_408 wl_5 wl_409, rfl, by decide, by decide, by decide +kernel⟩
theorem kw_X12_170 : q_wV RX12 RX12 170 yX12_wordNow cX12_wordNow 4 (some .long) 0 := ⟨q_goodV wl_396 wl_397 wl_398 wl_5 wl_399, rfl, by decide, by decide, by decide +kernel⟩
theorem kw_X12_182 : q_wV RX12 RX12 182 yX12_readsCloud cX12_readsCloud 5 (some .boolean) 1 := ⟨q_goodV wl_402 wl_403 wl_404 wl_5 wl_405, rfl, by decide, by decide, by decide +kernel⟩
theorem kw_X12_187 : q_wV RX12 RX12 187 yX12_readsSummer cX12_readsSummer 1 (some .boolean) 0 := ⟨q_goodV wl_410 wl_411 wl_412 wl_5 wl_413, rfl, by decide, by decide, by decide +kernel⟩
theorem kw_X12_193 : q_wV RX12 RX12 193 yX12_readsStain cX12_readsStain 4 (some .boolean) 0 := ⟨q_goodV wl_414 wl_415 wl_416 wl_5 wl_417, rfl, by decide, by decide, by decide +kernel⟩
theorem kw_X12_198 : q_wV RX12 RX12 198 yX12_readsWasher cX12_readsWasher 1 (some .boolean) 0 := ⟨q_goodV wl_418 wl_419 wl_420 wl_5 wl_421, rfl, by decide, by decide, by decide +kernel⟩
theorem kw_X12_203 : q_wV RX12 RX12 203 yX12_readsSoap cX12_readsSoap 2 (some .boolean) 0 := ⟨q_goodV wl_422 wl_423 wl_424 wl_5 wl_425, rfl, by decide, by decide, by decide +kernel⟩
theorem kw_X12_208 : q_wV RX12 RX12 208 yX12_readsEye cX12_readsEye 2 (some .boolean) 0 := ⟨q_goodV wl_426 wl_427 wl_428 wl_5 wl_429, rfl, by decide, by decide, by decide +kernel⟩
theorem kw_X12_211 : q_wV RX12 RX12 211 yX12_readAsTold cX12_readAsTold 2 none 0 := ⟨q_goodV wl_354 wl_355 wl_356 wl_5 wl_357, rfl, by decide, by decide, by decide +kernel⟩
theorem kw_X12_214 : q_wV RX12 RX12 214 yX12_readsClause cX12_readsClause 3 (some .boolean) 0 := ⟨q_goodV wl_383 wl_384 wl_385 wl_5 wl_386, rfl, by decide, by decide, by decide +kernel⟩
theorem kw_X12_217 : q_wV RX12 RX12 217 yX12_readsAll cX12_readsAll 3 (some .boolean) 0 := ⟨q_goodV wl_347 wl_348 wl_349 wl_5 wl_350, rfl, by decide, by decide, by decide +kernel⟩
theorem kw_X12_226 : q_wV RX12 RX12 226 yX12_begin cX12_begin 2 none 0 := ⟨q_goodV wl_441 wl_442 wl_443 wl_5 wl_444, rfl, by decide, by decide, by decide +kernel⟩
set_option maxHeartbeats 4000000 in
set_option maxRecDepth 100000 in
theorem c_X12_next (l : Launch) (G : q_G) (σ : q_S) (a0 : Nat) (h0 : q_T G a0 = 40) (hat : q_at σ a0) : Met l yX12_next (Cond.code yX12_next cX12_next 2 none :: wsL_law) (q_Rm 3) (q_Pre G σ [.ref a0]) (q_Qv G [40] σ (fun σ1 => q_at σ1 a0 ∧ q_tk σ1 a0 ∧ q_ff σ σ1 a0 [12, 13, 14, 15, 16])) 0 0 (q_N G) := by
  refine q_ofW (ts := [40]) (by decide) (Nat.le_of_ble_eq_true rfl) ?_
  intro p e s m args below meth c hE hr hlocks hW ls hl
  have hE : q_E G p s m args c cX12_next 2 RX12 := hE
  have hx := hE.1.1
  have hb := hE.1.2.1
  have hl : lv_has ls 2 [(0, .ref a0)] := hl
  have lp167a : ∀ (n167a : Nat) (ks2 : q_S) (H : Heap) (locs : List Loc) (kx1 : Int32) (vkx1 : q_V 0 201 kx1) (kx3 : Int32) (vkx3 : q_V 0 200 kx3) (ke4 : q_I ks2 a0 11 = kx3) (kx5 : Int32) (vkx5 : q_V 0 200 kx5) (ke6 : q_I ks2 a0 12 = kx5) (kx7 : Int32) (vkx7 : q_V 0 3 kx7) (ke8 : q_I ks2 a0 13 = kx7) (kx9 : Int32) (vkx9 : q_V 0 200 kx9) (ke10 : q_I ks2 a0 14 = kx9) (kx11 : Int32) (vkx11 : q_V 1 201 kx11) (ke12 : q_I ks2 a0 15 = kx11) (hW : q_Wd G [40] σ s.heap ks2 H locs) (hff167a : q_ff σ ks2 a0 [12, 13, 14, 15, 16]) (iv167a0 : (kx5 : Int32).toInt ≤ (kx3 : Int32).toInt) (iv167a1 : (kx7 : Int32).toInt ≠ 0 → (kx11 : Int32).toInt ≤ (kx3 : Int32).toInt) (iv167a2 : (kx7 : Int32).toInt ≠ 0 → (kx9 : Int32).toInt ≤ 199) (ls : Array Slot) (hl : lv_has ls 2 [(0, .ref a0), (1, .int kx1)]), (201 - kx1.toInt).toNat < n167a → W p l e (q_Rm 3) s m args below meth c H locs 0 0 (MQ below (q_Qv G [40] σ (fun σ1 => q_at σ1 a0 ∧ q_tk σ1 a0 ∧ q_ff σ σ1 a0 [12, 13, 14, 15, 16])) args s 0 0 (q_N G)) (F0 m 167 ls []) := by
    intro n167a
    induction n167a with
    | zero => intro _ _ _ _ _ _ _ _ _ _ _ _ _ _ _ _ _ _ _ _ _ _ _ _ _ _ _; exact fun h => absurd h (Nat.not_lt_zero _)
    | succ n167a ih167a =>
      intro ks2 H locs kx1 vkx1 kx3 vkx3 ke4 kx5 vkx5 ke6 kx7 vkx7 ke8 kx9 vkx9 ke10 kx11 vkx11 ke12 hW hff167a iv167a0 iv167a1 iv167a2 ls hl hm167a
      refine lv_iload_n hx hb dX12_next_167 rfl (lv_at hl 1 rfl) ?_
      refine lv_aload_n hx hb dX12_next_168 rfl (lv_at hl 0 rfl) ?_
      refine q_geti hE hW h0 rfl q_k12 15 (by decide) rfl (hE.l wl_369) dX12_next_169 (fun kx13 ekx13 vkx13 => ?_)
      obtain rfl : kx11 = kx13 := ke12.symm.trans ekx13
      refine lv_icmp_ge (tgt := 229) hx hb dX12_next_172 (by decide) (fun kc14 => ?_) (fun kc14 => ?_)
      · have kv15 : q_V 1 201 kx1 := (q_le2 vkx11 vkx1 kc14).w (by decide) (by decide)
        refine lv_aload_n hx hb dX12_next_229 rfl (lv_at hl 0 rfl) ?_
        refine lv_aload_n hx hb dX12_next_230 rfl (lv_at hl 0 rfl) ?_
        refine q_geti hE hW h0 rfl q_k12 13 (by decide) rfl (hE.l wl_352) dX12_next_231 (fun kx16 ekx16 vkx16 => ?_)
        obtain rfl : kx7 = kx16 := ke8.symm.trans ekx16
        refine lv_if_ne (tgt := 244) hx hb dX12_next_234 (by decide) (fun kc17 => ?_) (fun kc17 => ?_)
        · have kv18 : q_V 1 3 kx7 := q_ne1 vkx7 (q_c (k := 0) (x := 0) (by decide)) kc17 (by decide)
          refine lv_aload_n hx hb dX12_next_244 rfl (lv_at hl 0 rfl) ?_
          refine q_geti hE hW h0 rfl q_k12 15 (by decide) rfl (hE.l wl_369) dX12_next_245 (fun kx19 ekx19 vkx19 => ?_)
          obtain rfl : kx11 = kx19 := ke12.symm.trans ekx19
          have kh21 : (kx11 : Int32).toInt ≤ 200 := (by show (kx11 : Int32).toInt ≤ 200; have := (vkx3).1; have := (vkx3).2; have := (vkx5).1; have := (vkx5).2; have := (kv18).1; have := (kv18).2; have := (vkx9).1; have := (vkx9).2; have := (vkx11).1; have := (vkx11).2; have := Int32.le_iff_toInt_le.mp kc14; have := q_ine kc17; omega)
          have kv20 : q_V 1 200 kx11 := ⟨(vkx11).1, kh21⟩
          refine q_puti hE hW h0 rfl q_k12 tyX12 tyX12_ok 12 (by decide) rfl (hE.l wl_351) rfl rfl rfl (kv20.w (by decide) (by decide)) (by decide) dX12_next_248 (fun H locs ks22 kp23 hW => ?_)
          exact q_retv hE hr hlocks hW (⟨(by unfold q_at; rw [kp23.1, ((kp23.2.1 _ _ (Or.inr (by decide))).trans ke4)]; exact (by show (kx11 : Int32).toInt ≤ (kx3 : Int32).toInt; have := (vkx3).1; have := (vkx3).2; have := (kv18).1; have := (kv18).2; have := (vkx9).1; have := (vkx9).2; have := (kv20).1; have := (kv20).2; have := (kv20).1; have := (kv20).2; have := Int32.le_iff_toInt_le.mp kc14; have := q_ine kc17; omega)), (by unfold q_tk; rw [((kp23.2.1 _ _ (Or.inr (by decide))).trans ke8), ((kp23.2.1 _ _ (Or.inr (by decide))).trans ke10), ((kp23.2.1 _ _ (Or.inr (by decide))).trans ke12)]; exact (by show (kx7 : Int32).toInt ≠ 0 → (kx9 : Int32).toInt ≤ 199 ∧ (kx11 : Int32).toInt ≤ 200; have := (vkx3).1; have := (vkx3).2; have := (kv18).1; have := (kv18).2; have := (vkx9).1; have := (vkx9).2; have := (kv20).1; have := (kv20).2; have := (kv20).1; have := (kv20).2; have := Int32.le_iff_toInt_le.mp kc14; have := q_ine kc17; omega)), (hff167a.wI kp23 (by decide))⟩) dX12_next_251
        · have kv24 : q_V 0 0 kx7 := q_eq1 vkx7 (q_c (k := 0) (x := 0) (by decide)) kc17 (by decide) (by decide)
          refine lv_aload_n hx hb dX12_next_237 rfl (lv_at hl 0 rfl) ?_
          refine q_geti hE hW h0 rfl q_k12 12 (by decide) rfl (hE.l wl_351) dX12_next_238 (fun kx25 ekx25 vkx25 => ?_)
          obtain rfl : kx5 = kx25 := ke6.symm.trans ekx25
          refine lv_goto (tgt := 248) hx hb dX12_next_241 (by decide) ?_
          refine q_puti hE hW h0 rfl q_k12 tyX12 tyX12_ok 12 (by decide) rfl (hE.l wl_351) rfl rfl rfl vkx5 (by decide) dX12_next_248 (fun H locs ks26 kp27 hW => ?_)
          exact q_retv hE hr hlocks hW (⟨(by unfold q_at; rw [kp27.1, ((kp27.2.1 _ _ (Or.inr (by decide))).trans ke4)]; exact (by show (kx5 : Int32).toInt ≤ (kx3 : Int32).toInt; have := (vkx3).1; have := (vkx3).2; have := (kv24).1; have := (kv24).2; have := (vkx9).1; have := (vkx9).2; have := (vkx11).1; have := (vkx11).2; have := (vkx5).1; have := (vkx5).2; have := Int32.le_iff_toInt_le.mp kc14; have := congrArg Int32.toInt kc17; omega)), (by unfold q_tk; rw [((kp27.2.1 _ _ (Or.inr (by decide))).trans ke8), ((kp27.2.1 _ _ (Or.inr (by decide))).trans ke10), ((kp27.2.1 _ _ (Or.inr (by decide))).trans ke12)]; exact (by show (kx7 : Int32).toInt ≠ 0 → (kx9 : Int32).toInt ≤ 199 ∧ (kx11 : Int32).toInt ≤ 200; have := (vkx3).1; have := (vkx3).2; have := (kv24).1; have := (kv24).2; have := (vkx9).1; have := (vkx9).2; have := (vkx11).1; have := (vkx11).2; have := (vkx5).1; have := (vkx5).2; have := Int32.le_iff_toInt_le.mp kc14; have := congrArg Int32.toInt kc17; omega)), (hff167a.wI kp27 (by decide))⟩) dX12_next_251
      · have kv28 : q_V 0 200 kx1 := (q_lt1 vkx1 vkx11 (Int32.not_le.mp kc14)).w (by decide) (by decide)
        refine lv_aload_n hx hb dX12_next_175 rfl (lv_at hl 0 rfl) ?_
        refine q_geti hE hW h0 rfl q_k12 13 (by decide) rfl (hE.l wl_352) dX12_next_176 (fun kx29 ekx29 vkx29 => ?_)
        obtain rfl : kx7 = kx29 := ke8.symm.trans ekx29
        refine lv_iconst (v := 2) hx hb dX12_next_179 (by decide) ?_
        refine lv_icmp_ne (tgt := 229) hx hb dX12_next_180 (by decide) (fun kc30 => ?_) (fun kc30 => ?_)
        · refine lv_aload_n hx hb dX12_next_229 rfl (lv_at hl 0 rfl) ?_
          refine lv_aload_n hx hb dX12_next_230 rfl (lv_at hl 0 rfl) ?_
          refine q_geti hE hW h0 rfl q_k12 13 (by decide) rfl (hE.l wl_352) dX12_next_231 (fun kx31 ekx31 vkx31 => ?_)
          obtain rfl : kx7 = kx31 := ke8.symm.trans ekx31
          refine lv_if_ne (tgt := 244) hx hb dX12_next_234 (by decide) (fun kc32 => ?_) (fun kc32 => ?_)
          · have kv33 : q_V 1 3 kx7 := q_ne1 vkx7 (q_c (k := 0) (x := 0) (by decide)) kc32 (by decide)
            refine lv_aload_n hx hb dX12_next_244 rfl (lv_at hl 0 rfl) ?_
            refine q_geti hE hW h0 rfl q_k12 15 (by decide) rfl (hE.l wl_369) dX12_next_245 (fun kx34 ekx34 vkx34 => ?_)
            obtain rfl : kx11 = kx34 := ke12.symm.trans ekx34
            have kh36 : (kx11 : Int32).toInt ≤ 200 := (by show (kx11 : Int32).toInt ≤ 200; have := (vkx3).1; have := (vkx3).2; have := (vkx5).1; have := (vkx5).2; have := (kv33).1; have := (kv33).2; have := (vkx9).1; have := (vkx9).2; have := (vkx11).1; have := (vkx11).2; have := Int32.lt_iff_toInt_lt.mp (Int32.not_le.mp kc14); have := q_ine kc30; have := q_ine kc32; omega)
            have kv35 : q_V 1 200 kx11 := ⟨(vkx11).1, kh36⟩
            refine q_puti hE hW h0 rfl q_k12 tyX12 tyX12_ok 12 (by decide) rfl (hE.l wl_351) rfl rfl rfl (kv35.w (by decide) (by decide)) (by decide) dX12_next_248 (fun H locs ks37 kp38 hW => ?_)
            exact q_retv hE hr hlocks hW (⟨(by unfold q_at; rw [kp38.1, ((kp38.2.1 _ _ (Or.inr (by decide))).trans ke4)]; exact (by show (kx11 : Int32).toInt ≤ (kx3 : Int32).toInt; have := (vkx3).1; have := (vkx3).2; have := (kv33).1; have := (kv33).2; have := (vkx9).1; have := (vkx9).2; have := (kv35).1; have := (kv35).2; have := (kv35).1; have := (kv35).2; have := Int32.lt_iff_toInt_lt.mp (Int32.not_le.mp kc14); have := q_ine kc30; have := q_ine kc32; omega)), (by unfold q_tk; rw [((kp38.2.1 _ _ (Or.inr (by decide))).trans ke8), ((kp38.2.1 _ _ (Or.inr (by decide))).trans ke10), ((kp38.2.1 _ _ (Or.inr (by decide))).trans ke12)]; exact (by show (kx7 : Int32).toInt ≠ 0 → (kx9 : Int32).toInt ≤ 199 ∧ (kx11 : Int32).toInt ≤ 200; have := (vkx3).1; have := (vkx3).2; have := (kv33).1; have := (kv33).2; have := (vkx9).1; have := (vkx9).2; have := (kv35).1; have := (kv35).2; have := (kv35).1; have := (kv35).2; have := Int32.lt_iff_toInt_lt.mp (Int32.not_le.mp kc14); have := q_ine kc30; have := q_ine kc32; omega)), (hff167a.wI kp38 (by decide))⟩) dX12_next_251
          · have kv39 : q_V 0 0 kx7 := q_eq1 vkx7 (q_c (k := 0) (x := 0) (by decide)) kc32 (by decide) (by decide)
            refine lv_aload_n hx hb dX12_next_237 rfl (lv_at hl 0 rfl) ?_
            refine q_geti hE hW h0 rfl q_k12 12 (by decide) rfl (hE.l wl_351) dX12_next_238 (fun kx40 ekx40 vkx40 => ?_)
            obtain rfl : kx5 = kx40 := ke6.symm.trans ekx40
            refine lv_goto (tgt := 248) hx hb dX12_next_241 (by decide) ?_
            refine q_puti hE hW h0 rfl q_k12 tyX12 tyX12_ok 12 (by decide) rfl (hE.l wl_351) rfl rfl rfl vkx5 (by decide) dX12_next_248 (fun H locs ks41 kp42 hW => ?_)
            exact q_retv hE hr hlocks hW (⟨(by unfold q_at; rw [kp42.1, ((kp42.2.1 _ _ (Or.inr (by decide))).trans ke4)]; exact (by show (kx5 : Int32).toInt ≤ (kx3 : Int32).toInt; have := (vkx3).1; have := (vkx3).2; have := (kv39).1; have := (kv39).2; have := (vkx9).1; have := (vkx9).2; have := (vkx11).1; have := (vkx11).2; have := (vkx5).1; have := (vkx5).2; have := Int32.lt_iff_toInt_lt.mp (Int32.not_le.mp kc14); have := q_ine kc30; have := congrArg Int32.toInt kc32; omega)), (by unfold q_tk; rw [((kp42.2.1 _ _ (Or.inr (by decide))).trans ke8), ((kp42.2.1 _ _ (Or.inr (by decide))).trans ke10), ((kp42.2.1 _ _ (Or.inr (by decide))).trans ke12)]; exact (by show (kx7 : Int32).toInt ≠ 0 → (kx9 : Int32).toInt ≤ 199 ∧ (kx11 : Int32).toInt ≤ 200; have := (vkx3).1; have := (vkx3).2; have := (kv39).1; have := (kv39).2; have := (vkx9).1; have := (vkx9).2; have := (vkx11).1; have := (vkx11).2; have := (vkx5).1; have := (vkx5).2; have := Int32.lt_iff_toInt_lt.mp (Int32.not_le.mp kc14); have := q_ine kc30; have := congrArg Int32.toInt kc32; omega)), (hff167a.wI kp42 (by decide))⟩) dX12_next_251
        · have kv43 : q_V 2 2 kx7 := q_eq1 vkx7 (q_c (k := 2) (x := 2) (by decide)) kc30 (by decide) (by decide)
          refine lv_aload_n hx hb dX12_next_183 rfl (lv_at hl 0 rfl) ?_
          refine lv_aload_n hx hb dX12_next_184 rfl (lv_at hl 0 rfl) ?_
          refine q_geti hE hW h0 rfl q_k12 15 (by decide) rfl (hE.l wl_369) dX12_next_185 (fun kx44 ekx44 vkx44 => ?_)
          obtain rfl : kx11 = kx44 := ke12.symm.trans ekx44
          refine lv_aload_n hx hb dX12_next_188 rfl (lv_at hl 0 rfl) ?_
          refine q_geti hE hW h0 rfl q_k12 14 (by decide) rfl (hE.l wl_346) dX12_next_189 (fun kx45 ekx45 vkx45 => ?_)
          obtain rfl : kx9 = kx45 := ke10.symm.trans ekx45
          refine lv_isub hx hb dX12_next_192 ?_
          refine lv_topi (fun kx46 ekx46 => ?_)
          have vkx46 : q_V (-199) 201 kx46 := by rw [ekx46]; exact (q_sub vkx11 vkx9 (by decide) (by decide)).w (by decide) (by decide)
          refine lv_iconst (v := 2) hx hb dX12_next_193 (by decide) ?_
          refine lv_icmp_le (tgt := 203) hx hb dX12_next_194 (by decide) (fun kc47 => ?_) (fun kc47 => ?_)
          · have kv48 : q_V (-199) 2 kx46 := (q_le1 vkx46 (q_c (k := 2) (x := 2) (by decide)) kc47).w (by decide) (by decide)
            refine lv_bipush (v := 10) hx hb dX12_next_203 (by decide) ?_
            refine lv_aload_n hx hb dX12_next_205 rfl (lv_at hl 0 rfl) ?_
            refine q_geti hE hW h0 rfl q_k12 16 (by decide) rfl (hE.l wl_370) dX12_next_206 (fun kx49 ekx49 vkx49 => ?_)
            refine lv_imul hx hb dX12_next_209 ?_
            refine lv_topi (fun kx50 ekx50 => ?_)
            refine lv_aload_n hx hb dX12_next_210 rfl (lv_at hl 0 rfl) ?_
            refine q_getr hE hW h0 rfl q_k12 10 (by decide) rfl (hE.l wl_136) dX12_next_211 (fun kb51 ekb51 hkb51a hkb51b => ?_)
            have hkb51 : q_T G kb51 = 47 := q_tag hkb51a hkb51b
            have kh53 : (kx1 : Int32).toInt ≤ 199 := (by show (kx1 : Int32).toInt ≤ 199; have := (vkx3).1; have := (vkx3).2; have := (vkx5).1; have := (vkx5).2; have := (kv43).1; have := (kv43).2; have := (vkx9).1; have := (vkx9).2; have := (vkx11).1; have := (vkx11).2; have := ((q_all kx49)).1; have := ((q_all kx49)).2; have := Int32.lt_iff_toInt_lt.mp (Int32.not_le.mp kc14); have := congrArg Int32.toInt kc30; have := Int32.le_iff_toInt_le.mp kc47; omega)
            have kv52 : q_V 0 199 kx1 := ⟨(kv28).1, kh53⟩
            refine lv_iload_n hx hb dX12_next_214 rfl (lv_at hl 1 rfl) ?_
            refine q_iald hE hW hkb51 rfl (q_in kv52 (by decide) (by decide)) dX12_next_215 (fun kx54 ekx54 gkx54 => ?_)
            refine lv_iadd hx hb dX12_next_216 ?_
            refine lv_topi (fun kx55 ekx55 => ?_)
            refine lv_bipush (v := 48) hx hb dX12_next_217 (by decide) ?_
            refine lv_isub hx hb dX12_next_219 ?_
            refine lv_topi (fun kx56 ekx56 => ?_)
            refine q_puti hE hW h0 rfl q_k12 tyX12 tyX12_ok 16 (by decide) rfl (hE.l wl_370) rfl rfl rfl (q_all kx56) (by decide) dX12_next_220 (fun H locs ks57 kp58 hW => ?_)
            obtain ⟨kx59, ekx59⟩ : ∃ y : Int32, y = kx1 + 1 := ⟨_, rfl⟩
            have vkx59 : q_V 1 200 kx59 := by rw [ekx59]; exact (q_add kv52 (q_c (k := 1) (x := 1) (by decide)) (by decide) (by decide)).w (by decide) (by decide)
            have ikx59 : kx59.toInt = kx1.toInt + 1 := q_incT ekx59 kv52 (by decide) (by decide) (by decide)
            refine lv_iinc (v := kx59) (lv' := [(1, .int kx59), (0, .ref a0)]) hx hb dX12_next_223 hl (k := 1) rfl (by rw [ekx59]; rfl) (by decide) rfl (fun ls hl => ?_)
            refine lv_goto (tgt := 167) hx hb dX12_next_226 (by decide) ?_
            exact ih167a _ _ _ kx59 (vkx59.w (by decide) (by decide)) kx3 vkx3 ((kp58.2.1 _ _ (Or.inr (by decide))).trans ke4) kx5 vkx5 ((kp58.2.1 _ _ (Or.inr (by decide))).trans ke6) kx7 (kv43.w (by decide) (by decide)) ((kp58.2.1 _ _ (Or.inr (by decide))).trans ke8) kx9 vkx9 ((kp58.2.1 _ _ (Or.inr (by decide))).trans ke10) kx11 vkx11 ((kp58.2.1 _ _ (Or.inr (by decide))).trans ke12) hW (hff167a.wI kp58 (by decide)) (by show (kx5 : Int32).toInt ≤ (kx3 : Int32).toInt; have := (vkx3).1; have := (vkx3).2; have := (vkx5).1; have := (vkx5).2; have := (kv43).1; have := (kv43).2; have := (vkx9).1; have := (vkx9).2; have := (vkx11).1; have := (vkx11).2; have := ((q_all kx56)).1; have := ((q_all kx56)).2; have := Int32.lt_iff_toInt_lt.mp (Int32.not_le.mp kc14); have := congrArg Int32.toInt kc30; have := Int32.le_iff_toInt_le.mp kc47; omega) (by show (kx7 : Int32).toInt ≠ 0 → (kx11 : Int32).toInt ≤ (kx3 : Int32).toInt; have := (vkx3).1; have := (vkx3).2; have := (vkx5).1; have := (vkx5).2; have := (kv43).1; have := (kv43).2; have := (vkx9).1; have := (vkx9).2; have := (vkx11).1; have := (vkx11).2; have := ((q_all kx56)).1; have := ((q_all kx56)).2; have := Int32.lt_iff_toInt_lt.mp (Int32.not_le.mp kc14); have := congrArg Int32.toInt kc30; have := Int32.le_iff_toInt_le.mp kc47; omega) (by show (kx7 : Int32).toInt ≠ 0 → (kx9 : Int32).toInt ≤ 199; have := (vkx3).1; have := (vkx3).2; have := (vkx5).1; have := (vkx5).2; have := (kv43).1; have := (kv43).2; have := (vkx9).1; have := (vkx9).2; have := (vkx11).1; have := (vkx11).2; have := ((q_all kx56)).1; have := ((q_all kx56)).2; have := Int32.lt_iff_toInt_lt.mp (Int32.not_le.mp kc14); have := congrArg Int32.toInt kc30; have := Int32.le_iff_toInt_le.mp kc47; omega) ls (lv_sub hl [1, 0] rfl) (Nat.lt_of_lt_of_le (q_up (ikx59) (show q_V 1 201 kx59 from (vkx59.w (by decide) (by decide))).2) (Nat.le_of_lt_succ hm167a))
          · have kv60 : q_V 3 201 kx46 := (q_lt2 (q_c (k := 2) (x := 2) (by decide)) vkx46 (Int32.not_le.mp kc47)).w (by decide) (by decide)
            refine lv_sipush (v := 1000) hx hb dX12_next_197 (by decide) ?_
            refine lv_goto (tgt := 220) hx hb dX12_next_200 (by decide) ?_
            refine q_puti hE hW h0 rfl q_k12 tyX12 tyX12_ok 16 (by decide) rfl (hE.l wl_370) rfl rfl rfl ((q_c (k := 1000) (x := 1000) (by decide)).w (by decide) (by decide)) (by decide) dX12_next_220 (fun H locs ks61 kp62 hW => ?_)
            obtain ⟨kx63, ekx63⟩ : ∃ y : Int32, y = kx1 + 1 := ⟨_, rfl⟩
            have vkx63 : q_V 1 201 kx63 := by rw [ekx63]; exact (q_add kv28 (q_c (k := 1) (x := 1) (by decide)) (by decide) (by decide)).w (by decide) (by decide)
            have ikx63 : kx63.toInt = kx1.toInt + 1 := q_incT ekx63 kv28 (by decide) (by decide) (by decide)
            refine lv_iinc (v := kx63) (lv' := [(1, .int kx63), (0, .ref a0)]) hx hb dX12_next_223 hl (k := 1) rfl (by rw [ekx63]; rfl) (by decide) rfl (fun ls hl => ?_)
            refine lv_goto (tgt := 167) hx hb dX12_next_226 (by decide) ?_
            exact ih167a _ _ _ kx63 (vkx63.w (by decide) (by decide)) kx3 vkx3 ((kp62.2.1 _ _ (Or.inr (by decide))).trans ke4) kx5 vkx5 ((kp62.2.1 _ _ (Or.inr (by decide))).trans ke6) kx7 (kv43.w (by decide) (by decide)) ((kp62.2.1 _ _ (Or.inr (by decide))).trans ke8) kx9 vkx9 ((kp62.2.1 _ _ (Or.inr (by decide))).trans ke10) kx11 vkx11 ((kp62.2.1 _ _ (Or.inr (by decide))).trans ke12) hW (hff167a.wI kp62 (by decide)) (by show (kx5 : Int32).toInt ≤ (kx3 : Int32).toInt; have := (vkx3).1; have := (vkx3).2; have := (vkx5).1; have := (vkx5).2; have := (kv43).1; have := (kv43).2; have := (vkx9).1; have := (vkx9).2; have := (vkx11).1; have := (vkx11).2; have := ((q_c (k := 1000) (x := 1000) (by decide))).1; have := ((q_c (k := 1000) (x := 1000) (by decide))).2; have := Int32.lt_iff_toInt_lt.mp (Int32.not_le.mp kc14); have := congrArg Int32.toInt kc30; have := Int32.lt_iff_toInt_lt.mp (Int32.not_le.mp kc47); omega) (by show (kx7 : Int32).toInt ≠ 0 → (kx11 : Int32).toInt ≤ (kx3 : Int32).toInt; have := (vkx3).1; have := (vkx3).2; have := (vkx5).1; have := (vkx5).2; have := (kv43).1; have := (kv43).2; have := (vkx9).1; have := (vkx9).2; have := (vkx11).1; have := (vkx11).2; have := ((q_c (k := 1000) (x := 1000) (by decide))).1; have := ((q_c (k := 1000) (x := 1000) (by decide))).2; have := Int32.lt_iff_toInt_lt.mp (Int32.not_le.mp kc14); have := congrArg Int32.toInt kc30; have := Int32.lt_iff_toInt_lt.mp (Int32.not_le.mp kc47); omega) (by show (kx7 : Int32).toInt ≠ 0 → (kx9 : Int32).toInt ≤ 199; have := (vkx3).1; have := (vkx3).2; have := (vkx5).1; have := (vkx5).2; have := (kv43).1; have := (kv43).2; have := (vkx9).1; have := (vkx9).2; have := (vkx11).1; have := (vkx11).2; have := ((q_c (k := 1000) (x := 1000) (by decide))).1; have := ((q_c (k := 1000) (x := 1000) (by decide))).2; have := Int32.lt_iff_toInt_lt.mp (Int32.not_le.mp kc14); have := congrArg Int32.toInt kc30; have := Int32.lt_iff_toInt_lt.mp (Int32.not_le.mp kc47); omega) ls (lv_sub hl [1, 0] rfl) (Nat.lt_of_lt_of_le (q_up (ikx63) (show q_V 1 201 kx63 from vkx63).2) (Nat.le_of_lt_succ hm167a))
  have lp106a : ∀ (n106a : Nat) (ks64 : q_S) (H : Heap) (locs : List Loc) (kx65 : Int32) (vkx65 : q_V 0 200 kx65) (ke66 : q_I ks64 a0 11 = kx65) (kx67 : Int32) (vkx67 : q_V 0 200 kx67) (ke68 : q_I ks64 a0 12 = kx67) (kx69 : Int32) (vkx69 : q_V 0 3 kx69) (ke70 : q_I ks64 a0 13 = kx69) (kx71 : Int32) (vkx71 : q_V 0 200 kx71) (ke72 : q_I ks64 a0 14 = kx71) (kx73 : Int32) (vkx73 : q_V 1 201 kx73) (ke74 : q_I ks64 a0 15 = kx73) (hW : q_Wd G [40] σ s.heap ks64 H locs) (hff106a : q_ff σ ks64 a0 [12, 13, 14, 15, 16]) (iv106a0 : (kx67 : Int32).toInt ≤ (kx65 : Int32).toInt) (iv106a1 : (kx69 : Int32).toInt ≠ 0 → (kx73 : Int32).toInt ≤ (kx65 : Int32).toInt) (iv106a2 : (kx69 : Int32).toInt ≠ 0 → (kx71 : Int32).toInt ≤ 199) (ls : Array Slot) (hl : lv_has ls 2 [(0, .ref a0)]), (201 - kx73.toInt).toNat < n106a → W p l e (q_Rm 3) s m args below meth c H locs 0 0 (MQ below (q_Qv G [40] σ (fun σ1 => q_at σ1 a0 ∧ q_tk σ1 a0 ∧ q_ff σ σ1 a0 [12, 13, 14, 15, 16])) args s 0 0 (q_N G)) (F0 m 106 ls []) := by
    intro n106a
    induction n106a with
    | zero => intro _ _ _ _ _ _ _ _ _ _ _ _ _ _ _ _ _ _ _ _ _ _ _ _ _; exact fun h => absurd h (Nat.not_lt_zero _)
    | succ n106a ih106a =>
      intro ks64 H locs kx65 vkx65 ke66 kx67 vkx67 ke68 kx69 vkx69 ke70 kx71 vkx71 ke72 kx73 vkx73 ke74 hW hff106a iv106a0 iv106a1 iv106a2 ls hl hm106a
      refine lv_aload_n hx hb dX12_next_106 rfl (lv_at hl 0 rfl) ?_
      refine q_geti hE hW h0 rfl q_k12 13 (by decide) rfl (hE.l wl_352) dX12_next_107 (fun kx75 ekx75 vkx75 => ?_)
      obtain rfl : kx69 = kx75 := ke70.symm.trans ekx75
      refine lv_iconst (v := 1) hx hb dX12_next_110 (by decide) ?_
      refine lv_icmp_ne (tgt := 125) hx hb dX12_next_111 (by decide) (fun kc76 => ?_) (fun kc76 => ?_)
      · refine lv_aload_n hx hb dX12_next_125 rfl (lv_at hl 0 rfl) ?_
        refine q_geti hE hW h0 rfl q_k12 13 (by decide) rfl (hE.l wl_352) dX12_next_126 (fun kx77 ekx77 vkx77 => ?_)
        obtain rfl : kx69 = kx77 := ke70.symm.trans ekx77
        refine lv_iconst (v := 2) hx hb dX12_next_129 (by decide) ?_
        refine lv_icmp_ne (tgt := 157) hx hb dX12_next_130 (by decide) (fun kc78 => ?_) (fun kc78 => ?_)
        · refine lv_aload_n hx hb dX12_next_157 rfl (lv_at hl 0 rfl) ?_
          refine lv_iconst (v := 0) hx hb dX12_next_158 (by decide) ?_
          refine q_puti hE hW h0 rfl q_k12 tyX12 tyX12_ok 16 (by decide) rfl (hE.l wl_370) rfl rfl rfl ((q_c (k := 0) (x := 0) (by decide)).w (by decide) (by decide)) (by decide) dX12_next_159 (fun H locs ks79 kp80 hW => ?_)
          refine lv_aload_n hx hb dX12_next_162 rfl (lv_at hl 0 rfl) ?_
          refine q_geti hE hW h0 rfl q_k12 14 (by decide) rfl (hE.l wl_346) dX12_next_163 (fun kx81 ekx81 vkx81 => ?_)
          obtain rfl : kx71 = kx81 := ((kp80.2.1 _ _ (Or.inr (by decide))).trans ke72).symm.trans ekx81
          refine lv_istore_n (lv' := [(1, .int kx71), (0, .ref a0)]) hx hb dX12_next_166 rfl hl (by decide) rfl (fun ls hl => ?_)
          exact lp167a _ _ _ _ kx71 (vkx71.w (by decide) (by decide)) kx65 vkx65 ((kp80.2.1 _ _ (Or.inr (by decide))).trans ke66) kx67 vkx67 ((kp80.2.1 _ _ (Or.inr (by decide))).trans ke68) kx69 vkx69 ((kp80.2.1 _ _ (Or.inr (by decide))).trans ke70) kx71 vkx71 ((kp80.2.1 _ _ (Or.inr (by decide))).trans ke72) kx73 vkx73 ((kp80.2.1 _ _ (Or.inr (by decide))).trans ke74) hW (hff106a.wI kp80 (by decide)) (by show (kx67 : Int32).toInt ≤ (kx65 : Int32).toInt; have := (vkx65).1; have := (vkx65).2; have := (vkx67).1; have := (vkx67).2; have := (vkx69).1; have := (vkx69).2; have := (vkx71).1; have := (vkx71).2; have := (vkx73).1; have := (vkx73).2; have := ((q_c (k := 0) (x := 0) (by decide))).1; have := ((q_c (k := 0) (x := 0) (by decide))).2; have := q_ine kc76; have := q_ine kc78; omega) (by show (kx69 : Int32).toInt ≠ 0 → (kx73 : Int32).toInt ≤ (kx65 : Int32).toInt; have := (vkx65).1; have := (vkx65).2; have := (vkx67).1; have := (vkx67).2; have := (vkx69).1; have := (vkx69).2; have := (vkx71).1; have := (vkx71).2; have := (vkx73).1; have := (vkx73).2; have := ((q_c (k := 0) (x := 0) (by decide))).1; have := ((q_c (k := 0) (x := 0) (by decide))).2; have := q_ine kc76; have := q_ine kc78; omega) (by show (kx69 : Int32).toInt ≠ 0 → (kx71 : Int32).toInt ≤ 199; have := (vkx65).1; have := (vkx65).2; have := (vkx67).1; have := (vkx67).2; have := (vkx69).1; have := (vkx69).2; have := (vkx71).1; have := (vkx71).2; have := (vkx73).1; have := (vkx73).2; have := ((q_c (k := 0) (x := 0) (by decide))).1; have := ((q_c (k := 0) (x := 0) (by decide))).2; have := q_ine kc76; have := q_ine kc78; omega) ls (lv_sub hl [1, 0] rfl) (Nat.lt_succ_self _)
        · have kv82 : q_V 2 2 kx69 := q_eq1 vkx69 (q_c (k := 2) (x := 2) (by decide)) kc78 (by decide) (by decide)
          refine lv_aload_n hx hb dX12_next_133 rfl (lv_at hl 0 rfl) ?_
          refine lv_aload_n hx hb dX12_next_134 rfl (lv_at hl 0 rfl) ?_
          refine q_geti hE hW h0 rfl q_k12 15 (by decide) rfl (hE.l wl_369) dX12_next_135 (fun kx83 ekx83 vkx83 => ?_)
          obtain rfl : kx73 = kx83 := ke74.symm.trans ekx83
          refine q_goi hW (q_runV (As := [.int kx73]) (rest := []) hE hW (c_X12_isDigit l G ks64 a0 h0 kx73 (vkx73.w (by decide) (by decide))) kw_X12_132 (q_recv hE hW h0 rfl q_k12) rfl hl.1 rfl (Nat.le_of_ble_eq_true rfl) dX12_next_138 ⟨by decide, by decide⟩ ⟨by decide, by decide⟩) (by decide) (fun kx87 ks85 H locs kp84 kf86 hW => ?_)
          refine lv_if_eq (tgt := 157) hx hb dX12_next_141 (by decide) (fun kc88 => ?_) (fun kc88 => ?_)
          · have kv89 : q_V 0 0 kx87 := q_eq1 kp84.1 (q_c (k := 0) (x := 0) (by decide)) kc88 (by decide) (by decide)
            refine lv_aload_n hx hb dX12_next_157 rfl (lv_at hl 0 rfl) ?_
            refine lv_iconst (v := 0) hx hb dX12_next_158 (by decide) ?_
            refine q_puti hE hW h0 rfl q_k12 tyX12 tyX12_ok 16 (by decide) rfl (hE.l wl_370) rfl rfl rfl ((q_c (k := 0) (x := 0) (by decide)).w (by decide) (by decide)) (by decide) dX12_next_159 (fun H locs ks90 kp91 hW => ?_)
            refine lv_aload_n hx hb dX12_next_162 rfl (lv_at hl 0 rfl) ?_
            refine q_geti hE hW h0 rfl q_k12 14 (by decide) rfl (hE.l wl_346) dX12_next_163 (fun kx92 ekx92 vkx92 => ?_)
            obtain rfl : kx71 = kx92 := (((kp91.2.1 _ _ (Or.inr (by decide))).trans (kf86.I _ h0 (by decide))).trans ke72).symm.trans ekx92
            refine lv_istore_n (lv' := [(1, .int kx71), (0, .ref a0)]) hx hb dX12_next_166 rfl hl (by decide) rfl (fun ls hl => ?_)
            exact lp167a _ _ _ _ kx71 (vkx71.w (by decide) (by decide)) kx65 vkx65 (((kp91.2.1 _ _ (Or.inr (by decide))).trans (kf86.I _ h0 (by decide))).trans ke66) kx67 vkx67 (((kp91.2.1 _ _ (Or.inr (by decide))).trans (kf86.I _ h0 (by decide))).trans ke68) kx69 (kv82.w (by decide) (by decide)) (((kp91.2.1 _ _ (Or.inr (by decide))).trans (kf86.I _ h0 (by decide))).trans ke70) kx71 vkx71 (((kp91.2.1 _ _ (Or.inr (by decide))).trans (kf86.I _ h0 (by decide))).trans ke72) kx73 vkx73 (((kp91.2.1 _ _ (Or.inr (by decide))).trans (kf86.I _ h0 (by decide))).trans ke74) hW ((hff106a.fr kf86 h0 (by decide)).wI kp91 (by decide)) (by show (kx67 : Int32).toInt ≤ (kx65 : Int32).toInt; have := (vkx65).1; have := (vkx65).2; have := (vkx67).1; have := (vkx67).2; have := (kv82).1; have := (kv82).2; have := (vkx71).1; have := (vkx71).2; have := (vkx73).1; have := (vkx73).2; have := ((q_c (k := 0) (x := 0) (by decide))).1; have := ((q_c (k := 0) (x := 0) (by decide))).2; have := q_ine kc76; have := congrArg Int32.toInt kc78; have := congrArg Int32.toInt kc88; omega) (by show (kx69 : Int32).toInt ≠ 0 → (kx73 : Int32).toInt ≤ (kx65 : Int32).toInt; have := (vkx65).1; have := (vkx65).2; have := (vkx67).1; have := (vkx67).2; have := (kv82).1; have := (kv82).2; have := (vkx71).1; have := (vkx71).2; have := (vkx73).1; have := (vkx73).2; have := ((q_c (k := 0) (x := 0) (by decide))).1; have := ((q_c (k := 0) (x := 0) (by decide))).2; have := q_ine kc76; have := congrArg Int32.toInt kc78; have := congrArg Int32.toInt kc88; omega) (by show (kx69 : Int32).toInt ≠ 0 → (kx71 : Int32).toInt ≤ 199; have := (vkx65).1; have := (vkx65).2; have := (vkx67).1; have := (vkx67).2; have := (kv82).1; have := (kv82).2; have := (vkx71).1; have := (vkx71).2; have := (vkx73).1; have := (vkx73).2; have := ((q_c (k := 0) (x := 0) (by decide))).1; have := ((q_c (k := 0) (x := 0) (by decide))).2; have := q_ine kc76; have := congrArg Int32.toInt kc78; have := congrArg Int32.toInt kc88; omega) ls (lv_sub hl [1, 0] rfl) (Nat.lt_succ_self _)
          · have kv93 : q_V 1 199 kx73 := q_both vkx73 (kp84.2.1 kc88) (by decide) (by decide)
            have kh94 : (kx73 : Int32).toInt < (kx65 : Int32).toInt := by have q_h := kp84.2.2 kc88; rw [(kf86.I 11 h0 (by decide)).symm.trans ((kf86.I _ h0 (by decide)).trans ke66)] at q_h; exact q_h
            have kv95 : q_V 1 1 kx87 := q_ne1 kp84.1 (q_c (k := 0) (x := 0) (by decide)) kc88 (by decide)
            refine lv_aload_n hx hb dX12_next_144 rfl (lv_at hl 0 rfl) ?_
            refine lv_dup hx hb dX12_next_145 rfl ?_
            refine q_geti hE hW h0 rfl q_k12 15 (by decide) rfl (hE.l wl_369) dX12_next_146 (fun kx96 ekx96 vkx96 => ?_)
            obtain rfl : kx73 = kx96 := ((kf86.I _ h0 (by decide)).trans ke74).symm.trans ekx96
            refine lv_iconst (v := 1) hx hb dX12_next_149 (by decide) ?_
            refine lv_iadd hx hb dX12_next_150 ?_
            refine lv_topi (fun kx97 ekx97 => ?_)
            have vkx97 : q_V 2 200 kx97 := by rw [ekx97]; exact (q_add kv93 (q_c (k := 1) (x := 1) (by decide)) (by decide) (by decide)).w (by decide) (by decide)
            have ikx97 : kx97.toInt = kx73.toInt + 1 := q_incT ekx97 kv93 (by decide) (by decide) (by decide)
            refine q_puti hE hW h0 rfl q_k12 tyX12 tyX12_ok 15 (by decide) rfl (hE.l wl_369) rfl rfl rfl (vkx97.w (by decide) (by decide)) (by decide) dX12_next_151 (fun H locs ks98 kp99 hW => ?_)
            refine lv_goto (tgt := 106) hx hb dX12_next_154 (by decide) ?_
            exact ih106a _ _ _ kx65 vkx65 (((kp99.2.1 _ _ (Or.inr (by decide))).trans (kf86.I _ h0 (by decide))).trans ke66) kx67 vkx67 (((kp99.2.1 _ _ (Or.inr (by decide))).trans (kf86.I _ h0 (by decide))).trans ke68) kx69 (kv82.w (by decide) (by decide)) (((kp99.2.1 _ _ (Or.inr (by decide))).trans (kf86.I _ h0 (by decide))).trans ke70) kx71 vkx71 (((kp99.2.1 _ _ (Or.inr (by decide))).trans (kf86.I _ h0 (by decide))).trans ke72) kx97 (vkx97.w (by decide) (by decide)) kp99.1 hW ((hff106a.fr kf86 h0 (by decide)).wI kp99 (by decide)) (by show (kx67 : Int32).toInt ≤ (kx65 : Int32).toInt; have := (vkx65).1; have := (vkx65).2; have := (vkx67).1; have := (vkx67).2; have := (kv82).1; have := (kv82).2; have := (vkx71).1; have := (vkx71).2; have := (vkx97).1; have := (vkx97).2; have := q_ine kc76; have := congrArg Int32.toInt kc78; have := q_ine kc88; omega) (by show (kx69 : Int32).toInt ≠ 0 → (kx97 : Int32).toInt ≤ (kx65 : Int32).toInt; have := (vkx65).1; have := (vkx65).2; have := (vkx67).1; have := (vkx67).2; have := (kv82).1; have := (kv82).2; have := (vkx71).1; have := (vkx71).2; have := (vkx97).1; have := (vkx97).2; have := q_ine kc76; have := congrArg Int32.toInt kc78; have := q_ine kc88; omega) (by show (kx69 : Int32).toInt ≠ 0 → (kx71 : Int32).toInt ≤ 199; have := (vkx65).1; have := (vkx65).2; have := (vkx67).1; have := (vkx67).2; have := (kv82).1; have := (kv82).2; have := (vkx71).1; have := (vkx71).2; have := (vkx97).1; have := (vkx97).2; have := q_ine kc76; have := congrArg Int32.toInt kc78; have := q_ine kc88; omega) ls (lv_sub hl [0] rfl) (Nat.lt_of_lt_of_le (q_up (ikx97) (show q_V 2 201 kx97 from (vkx97.w (by decide) (by decide))).2) (Nat.le_of_lt_succ hm106a))
      · have kv100 : q_V 1 1 kx69 := q_eq1 vkx69 (q_c (k := 1) (x := 1) (by decide)) kc76 (by decide) (by decide)
        refine lv_aload_n hx hb dX12_next_114 rfl (lv_at hl 0 rfl) ?_
        refine lv_aload_n hx hb dX12_next_115 rfl (lv_at hl 0 rfl) ?_
        refine q_geti hE hW h0 rfl q_k12 15 (by decide) rfl (hE.l wl_369) dX12_next_116 (fun kx101 ekx101 vkx101 => ?_)
        obtain rfl : kx73 = kx101 := ke74.symm.trans ekx101
        refine q_goi hW (q_runV (As := [.int kx73]) (rest := []) hE hW (c_X12_isSmall l G ks64 a0 h0 kx73 (vkx73.w (by decide) (by decide))) kw_X12_128 (q_recv hE hW h0 rfl q_k12) rfl hl.1 rfl (Nat.le_of_ble_eq_true rfl) dX12_next_119 ⟨by decide, by decide⟩ ⟨by decide, by decide⟩) (by decide) (fun kx105 ks103 H locs kp102 kf104 hW => ?_)
        refine lv_if_ne (tgt := 144) hx hb dX12_next_122 (by decide) (fun kc106 => ?_) (fun kc106 => ?_)
        · have kv107 : q_V 1 199 kx73 := q_both vkx73 (kp102.2.1 kc106) (by decide) (by decide)
          have kh108 : (kx73 : Int32).toInt < (kx65 : Int32).toInt := by have q_h := kp102.2.2 kc106; rw [(kf104.I 11 h0 (by decide)).symm.trans ((kf104.I _ h0 (by decide)).trans ke66)] at q_h; exact q_h
          have kv109 : q_V 1 1 kx105 := q_ne1 kp102.1 (q_c (k := 0) (x := 0) (by decide)) kc106 (by decide)
          refine lv_aload_n hx hb dX12_next_144 rfl (lv_at hl 0 rfl) ?_
          refine lv_dup hx hb dX12_next_145 rfl ?_
          refine q_geti hE hW h0 rfl q_k12 15 (by decide) rfl (hE.l wl_369) dX12_next_146 (fun kx110 ekx110 vkx110 => ?_)
          obtain rfl : kx73 = kx110 := ((kf104.I _ h0 (by decide)).trans ke74).symm.trans ekx110
          refine lv_iconst (v := 1) hx hb dX12_next_149 (by decide) ?_
          refine lv_iadd hx hb dX12_next_150 ?_
          refine lv_topi (fun kx111 ekx111 => ?_)
          have vkx111 : q_V 2 200 kx111 := by rw [ekx111]; exact (q_add kv107 (q_c (k := 1) (x := 1) (by decide)) (by decide) (by decide)).w (by decide) (by decide)
          have ikx111 : kx111.toInt = kx73.toInt + 1 := q_incT ekx111 kv107 (by decide) (by decide) (by decide)
          refine q_puti hE hW h0 rfl q_k12 tyX12 tyX12_ok 15 (by decide) rfl (hE.l wl_369) rfl rfl rfl (vkx111.w (by decide) (by decide)) (by decide) dX12_next_151 (fun H locs ks112 kp113 hW => ?_)
          refine lv_goto (tgt := 106) hx hb dX12_next_154 (by decide) ?_
          exact ih106a _ _ _ kx65 vkx65 (((kp113.2.1 _ _ (Or.inr (by decide))).trans (kf104.I _ h0 (by decide))).trans ke66) kx67 vkx67 (((kp113.2.1 _ _ (Or.inr (by decide))).trans (kf104.I _ h0 (by decide))).trans ke68) kx69 (kv100.w (by decide) (by decide)) (((kp113.2.1 _ _ (Or.inr (by decide))).trans (kf104.I _ h0 (by decide))).trans ke70) kx71 vkx71 (((kp113.2.1 _ _ (Or.inr (by decide))).trans (kf104.I _ h0 (by decide))).trans ke72) kx111 (vkx111.w (by decide) (by decide)) kp113.1 hW ((hff106a.fr kf104 h0 (by decide)).wI kp113 (by decide)) (by show (kx67 : Int32).toInt ≤ (kx65 : Int32).toInt; have := (vkx65).1; have := (vkx65).2; have := (vkx67).1; have := (vkx67).2; have := (kv100).1; have := (kv100).2; have := (vkx71).1; have := (vkx71).2; have := (vkx111).1; have := (vkx111).2; have := congrArg Int32.toInt kc76; have := q_ine kc106; omega) (by show (kx69 : Int32).toInt ≠ 0 → (kx111 : Int32).toInt ≤ (kx65 : Int32).toInt; have := (vkx65).1; have := (vkx65).2; have := (vkx67).1; have := (vkx67).2; have := (kv100).1; have := (kv100).2; have := (vkx71).1; have := (vkx71).2; have := (vkx111).1; have := (vkx111).2; have := congrArg Int32.toInt kc76; have := q_ine kc106; omega) (by show (kx69 : Int32).toInt ≠ 0 → (kx71 : Int32).toInt ≤ 199; have := (vkx65).1; have := (vkx65).2; have := (vkx67).1; have := (vkx67).2; have := (kv100).1; have := (kv100).2; have := (vkx71).1; have := (vkx71).2; have := (vkx111).1; have := (vkx111).2; have := congrArg Int32.toInt kc76; have := q_ine kc106; omega) ls (lv_sub hl [0] rfl) (Nat.lt_of_lt_of_le (q_up (ikx111) (show q_V 2 201 kx111 from (vkx111.w (by decide) (by decide))).2) (Nat.le_of_lt_succ hm106a))
        · have kv114 : q_V 0 0 kx105 := q_eq1 kp102.1 (q_c (k := 0) (x := 0) (by decide)) kc106 (by decide) (by decide)
          refine lv_aload_n hx hb dX12_next_125 rfl (lv_at hl 0 rfl) ?_
          refine q_geti hE hW h0 rfl q_k12 13 (by decide) rfl (hE.l wl_352) dX12_next_126 (fun kx115 ekx115 vkx115 => ?_)
          obtain rfl : kx69 = kx115 := ((kf104.I _ h0 (by decide)).trans ke70).symm.trans ekx115
          refine lv_iconst (v := 2) hx hb dX12_next_129 (by decide) ?_
          refine lv_icmp_ne (tgt := 157) hx hb dX12_next_130 (by decide) (fun kc116 => ?_) (fun kc116 => ?_)
          · refine lv_aload_n hx hb dX12_next_157 rfl (lv_at hl 0 rfl) ?_
            refine lv_iconst (v := 0) hx hb dX12_next_158 (by decide) ?_
            refine q_puti hE hW h0 rfl q_k12 tyX12 tyX12_ok 16 (by decide) rfl (hE.l wl_370) rfl rfl rfl ((q_c (k := 0) (x := 0) (by decide)).w (by decide) (by decide)) (by decide) dX12_next_159 (fun H locs ks117 kp118 hW => ?_)
            refine lv_aload_n hx hb dX12_next_162 rfl (lv_at hl 0 rfl) ?_
            refine q_geti hE hW h0 rfl q_k12 14 (by decide) rfl (hE.l wl_346) dX12_next_163 (fun kx119 ekx119 vkx119 => ?_)
            obtain rfl : kx71 = kx119 := (((kp118.2.1 _ _ (Or.inr (by decide))).trans (kf104.I _ h0 (by decide))).trans ke72).symm.trans ekx119
            refine lv_istore_n (lv' := [(1, .int kx71), (0, .ref a0)]) hx hb dX12_next_166 rfl hl (by decide) rfl (fun ls hl => ?_)
            exact lp167a _ _ _ _ kx71 (vkx71.w (by decide) (by decide)) kx65 vkx65 (((kp118.2.1 _ _ (Or.inr (by decide))).trans (kf104.I _ h0 (by decide))).trans ke66) kx67 vkx67 (((kp118.2.1 _ _ (Or.inr (by decide))).trans (kf104.I _ h0 (by decide))).trans ke68) kx69 (kv100.w (by decide) (by decide)) (((kp118.2.1 _ _ (Or.inr (by decide))).trans (kf104.I _ h0 (by decide))).trans ke70) kx71 vkx71 (((kp118.2.1 _ _ (Or.inr (by decide))).trans (kf104.I _ h0 (by decide))).trans ke72) kx73 vkx73 (((kp118.2.1 _ _ (Or.inr (by decide))).trans (kf104.I _ h0 (by decide))).trans ke74) hW ((hff106a.fr kf104 h0 (by decide)).wI kp118 (by decide)) (by show (kx67 : Int32).toInt ≤ (kx65 : Int32).toInt; have := (vkx65).1; have := (vkx65).2; have := (vkx67).1; have := (vkx67).2; have := (kv100).1; have := (kv100).2; have := (vkx71).1; have := (vkx71).2; have := (vkx73).1; have := (vkx73).2; have := ((q_c (k := 0) (x := 0) (by decide))).1; have := ((q_c (k := 0) (x := 0) (by decide))).2; have := congrArg Int32.toInt kc76; have := congrArg Int32.toInt kc106; have := q_ine kc116; omega) (by show (kx69 : Int32).toInt ≠ 0 → (kx73 : Int32).toInt ≤ (kx65 : Int32).toInt; have := (vkx65).1; have := (vkx65).2; have := (vkx67).1; have := (vkx67).2; have := (kv100).1; have := (kv100).2; have := (vkx71).1; have := (vkx71).2; have := (vkx73).1; have := (vkx73).2; have := ((q_c (k := 0) (x := 0) (by decide))).1; have := ((q_c (k := 0) (x := 0) (by decide))).2; have := congrArg Int32.toInt kc76; have := congrArg Int32.toInt kc106; have := q_ine kc116; omega) (by show (kx69 : Int32).toInt ≠ 0 → (kx71 : Int32).toInt ≤ 199; have := (vkx65).1; have := (vkx65).2; have := (vkx67).1; have := (vkx67).2; have := (kv100).1; have := (kv100).2; have := (vkx71).1; have := (vkx71).2; have := (vkx73).1; have := (vkx73).2; have := ((q_c (k := 0) (x := 0) (by decide))).1; have := ((q_c (k := 0) (x := 0) (by decide))).2; have := congrArg Int32.toInt kc76; have := congrArg Int32.toInt kc106; have := q_ine kc116; omega) ls (lv_sub hl [1, 0] rfl) (Nat.lt_succ_self _)
          · have kv120 : q_V 2 1 kx69 := q_eq1 kv100 (q_c (k := 2) (x := 2) (by decide)) kc116 (by decide) (by decide)
            exact (kv120.no (by decide))
  have lp0a : ∀ (n0a : Nat) (ks121 : q_S) (H : Heap) (locs : List Loc) (kx122 : Int32) (vkx122 : q_V 0 200 kx122) (ke123 : q_I ks121 a0 11 = kx122) (kx124 : Int32) (vkx124 : q_V 0 200 kx124) (ke125 : q_I ks121 a0 12 = kx124) (hW : q_Wd G [40] σ s.heap ks121 H locs) (hff0a : q_ff σ ks121 a0 [12, 13, 14, 15, 16]) (iv0a0 : (kx124 : Int32).toInt ≤ (kx122 : Int32).toInt) (ls : Array Slot) (hl : lv_has ls 2 [(0, .ref a0)]), (kx122.toInt - kx124.toInt).toNat < n0a → W p l e (q_Rm 3) s m args below meth c H locs 0 0 (MQ below (q_Qv G [40] σ (fun σ1 => q_at σ1 a0 ∧ q_tk σ1 a0 ∧ q_ff σ σ1 a0 [12, 13, 14, 15, 16])) args s 0 0 (q_N G)) (F0 m 0 ls []) := by
    intro n0a
    induction n0a with
    | zero => intro _ _ _ _ _ _ _ _ _ _ _ _ _ _; exact fun h => absurd h (Nat.not_lt_zero _)
    | succ n0a ih0a =>
      intro ks121 H locs kx122 vkx122 ke123 kx124 vkx124 ke125 hW hff0a iv0a0 ls hl hm0a
      refine lv_aload_n hx hb dX12_next_0 rfl (lv_at hl 0 rfl) ?_
      refine q_geti hE hW h0 rfl q_k12 12 (by decide) rfl (hE.l wl_351) dX12_next_1 (fun kx126 ekx126 vkx126 => ?_)
      obtain rfl : kx124 = kx126 := ke125.symm.trans ekx126
      refine lv_aload_n hx hb dX12_next_4 rfl (lv_at hl 0 rfl) ?_
      refine q_geti hE hW h0 rfl q_k12 11 (by decide) rfl (hE.l wl_171) dX12_next_5 (fun kx127 ekx127 vkx127 => ?_)
      obtain rfl : kx122 = kx127 := ke123.symm.trans ekx127
      refine lv_icmp_ge (tgt := 38) hx hb dX12_next_8 (by decide) (fun kc128 => ?_) (fun kc128 => ?_)
      · refine lv_aload_n hx hb dX12_next_38 rfl (lv_at hl 0 rfl) ?_
        refine lv_aload_n hx hb dX12_next_39 rfl (lv_at hl 0 rfl) ?_
        refine q_geti hE hW h0 rfl q_k12 12 (by decide) rfl (hE.l wl_351) dX12_next_40 (fun kx129 ekx129 vkx129 => ?_)
        obtain rfl : kx124 = kx129 := ke125.symm.trans ekx129
        refine q_puti hE hW h0 rfl q_k12 tyX12 tyX12_ok 14 (by decide) rfl (hE.l wl_346) rfl rfl rfl vkx124 (by decide) dX12_next_43 (fun H locs ks130 kp131 hW => ?_)
        refine lv_aload_n hx hb dX12_next_46 rfl (lv_at hl 0 rfl) ?_
        refine lv_aload_n hx hb dX12_next_47 rfl (lv_at hl 0 rfl) ?_
        refine q_geti hE hW h0 rfl q_k12 12 (by decide) rfl (hE.l wl_351) dX12_next_48 (fun kx132 ekx132 vkx132 => ?_)
        obtain rfl : kx124 = kx132 := ((kp131.2.1 _ _ (Or.inr (by decide))).trans ke125).symm.trans ekx132
        refine lv_iconst (v := 1) hx hb dX12_next_51 (by decide) ?_
        refine lv_iadd hx hb dX12_next_52 ?_
        refine lv_topi (fun kx133 ekx133 => ?_)
        have vkx133 : q_V 1 201 kx133 := by rw [ekx133]; exact (q_add vkx124 (q_c (k := 1) (x := 1) (by decide)) (by decide) (by decide)).w (by decide) (by decide)
        have ikx133 : kx133.toInt = kx124.toInt + 1 := q_incT ekx133 vkx124 (by decide) (by decide) (by decide)
        refine q_puti hE hW h0 rfl q_k12 tyX12 tyX12_ok 15 (by decide) rfl (hE.l wl_369) rfl rfl rfl (vkx133.w (by decide) (by decide)) (by decide) dX12_next_53 (fun H locs ks134 kp135 hW => ?_)
        refine lv_aload_n hx hb dX12_next_56 rfl (lv_at hl 0 rfl) ?_
        refine lv_aload_n hx hb dX12_next_57 rfl (lv_at hl 0 rfl) ?_
        refine q_geti hE hW h0 rfl q_k12 12 (by decide) rfl (hE.l wl_351) dX12_next_58 (fun kx136 ekx136 vkx136 => ?_)
        obtain rfl : kx124 = kx136 := (((kp135.2.1 _ _ (Or.inr (by decide))).trans (kp131.2.1 _ _ (Or.inr (by decide)))).trans ke125).symm.trans ekx136
        refine lv_aload_n hx hb dX12_next_61 rfl (lv_at hl 0 rfl) ?_
        refine q_geti hE hW h0 rfl q_k12 11 (by decide) rfl (hE.l wl_171) dX12_next_62 (fun kx137 ekx137 vkx137 => ?_)
        obtain rfl : kx122 = kx137 := (((kp135.2.1 _ _ (Or.inr (by decide))).trans (kp131.2.1 _ _ (Or.inr (by decide)))).trans ke123).symm.trans ekx137
        refine lv_icmp_ne (tgt := 72) hx hb dX12_next_65 (by decide) (fun kc138 => ?_) (fun kc138 => ?_)
        · refine lv_aload_n hx hb dX12_next_72 rfl (lv_at hl 0 rfl) ?_
          refine lv_aload_n hx hb dX12_next_73 rfl (lv_at hl 0 rfl) ?_
          refine q_geti hE hW h0 rfl q_k12 12 (by decide) rfl (hE.l wl_351) dX12_next_74 (fun kx139 ekx139 vkx139 => ?_)
          obtain rfl : kx124 = kx139 := (((kp135.2.1 _ _ (Or.inr (by decide))).trans (kp131.2.1 _ _ (Or.inr (by decide)))).trans ke125).symm.trans ekx139
          refine q_goi hW (q_runV (As := [.int kx124]) (rest := [.ref a0]) hE hW (c_X12_isSmall l G ks134 a0 h0 kx124 (vkx124.w (by decide) (by decide))) kw_X12_128 (q_recv hE hW h0 rfl q_k12) rfl hl.1 rfl (Nat.le_of_ble_eq_true rfl) dX12_next_77 ⟨by decide, by decide⟩ ⟨by decide, by decide⟩) (by decide) (fun kx143 ks141 H locs kp140 kf142 hW => ?_)
          refine lv_if_eq (tgt := 87) hx hb dX12_next_80 (by decide) (fun kc144 => ?_) (fun kc144 => ?_)
          · have kv145 : q_V 0 0 kx143 := q_eq1 kp140.1 (q_c (k := 0) (x := 0) (by decide)) kc144 (by decide) (by decide)
            refine lv_aload_n hx hb dX12_next_87 rfl (lv_at hl 0 rfl) ?_
            refine lv_aload_n hx hb dX12_next_88 rfl (lv_at hl 0 rfl) ?_
            refine q_geti hE hW h0 rfl q_k12 12 (by decide) rfl (hE.l wl_351) dX12_next_89 (fun kx146 ekx146 vkx146 => ?_)
            obtain rfl : kx124 = kx146 := ((((kf142.I _ h0 (by decide)).trans (kp135.2.1 _ _ (Or.inr (by decide)))).trans (kp131.2.1 _ _ (Or.inr (by decide)))).trans ke125).symm.trans ekx146
            refine q_goi hW (q_runV (As := [.int kx124]) (rest := [.ref a0]) hE hW (c_X12_isDigit l G ks141 a0 h0 kx124 (vkx124.w (by decide) (by decide))) kw_X12_132 (q_recv hE hW h0 rfl q_k12) rfl hl.1 rfl (Nat.le_of_ble_eq_true rfl) dX12_next_92 ⟨by decide, by decide⟩ ⟨by decide, by decide⟩) (by decide) (fun kx150 ks148 H locs kp147 kf149 hW => ?_)
            refine lv_if_eq (tgt := 102) hx hb dX12_next_95 (by decide) (fun kc151 => ?_) (fun kc151 => ?_)
            · have kv152 : q_V 0 0 kx150 := q_eq1 kp147.1 (q_c (k := 0) (x := 0) (by decide)) kc151 (by decide) (by decide)
              refine lv_iconst (v := 3) hx hb dX12_next_102 (by decide) ?_
              refine q_puti hE hW h0 rfl q_k12 tyX12 tyX12_ok 13 (by decide) rfl (hE.l wl_352) rfl rfl rfl ((q_c (k := 3) (x := 3) (by decide)).w (by decide) (by decide)) (by decide) dX12_next_103 (fun H locs ks153 kp154 hW => ?_)
              exact lp106a _ _ _ _ kx122 vkx122 ((((((kp154.2.1 _ _ (Or.inr (by decide))).trans (kf149.I _ h0 (by decide))).trans (kf142.I _ h0 (by decide))).trans (kp135.2.1 _ _ (Or.inr (by decide)))).trans (kp131.2.1 _ _ (Or.inr (by decide)))).trans ke123) kx124 vkx124 ((((((kp154.2.1 _ _ (Or.inr (by decide))).trans (kf149.I _ h0 (by decide))).trans (kf142.I _ h0 (by decide))).trans (kp135.2.1 _ _ (Or.inr (by decide)))).trans (kp131.2.1 _ _ (Or.inr (by decide)))).trans ke125) 3 ((q_c (k := 3) (x := 3) (by decide)).w (by decide) (by decide)) kp154.1 kx124 vkx124 (((((kp154.2.1 _ _ (Or.inr (by decide))).trans (kf149.I _ h0 (by decide))).trans (kf142.I _ h0 (by decide))).trans (kp135.2.1 _ _ (Or.inr (by decide)))).trans kp131.1) kx133 vkx133 ((((kp154.2.1 _ _ (Or.inr (by decide))).trans (kf149.I _ h0 (by decide))).trans (kf142.I _ h0 (by decide))).trans kp135.1) hW (((((hff0a.wI kp131 (by decide)).wI kp135 (by decide)).fr kf142 h0 (by decide)).fr kf149 h0 (by decide)).wI kp154 (by decide)) (by show (kx124 : Int32).toInt ≤ (kx122 : Int32).toInt; have := (vkx122).1; have := (vkx122).2; have := (vkx124).1; have := (vkx124).2; have := (vkx124).1; have := (vkx124).2; have := (vkx133).1; have := (vkx133).2; have := ((q_c (k := 3) (x := 3) (by decide))).1; have := ((q_c (k := 3) (x := 3) (by decide))).2; have := Int32.le_iff_toInt_le.mp kc128; have := q_ine kc138; have := congrArg Int32.toInt kc144; have := congrArg Int32.toInt kc151; omega) (by show (3 : Int32).toInt ≠ 0 → (kx133 : Int32).toInt ≤ (kx122 : Int32).toInt; have := (vkx122).1; have := (vkx122).2; have := (vkx124).1; have := (vkx124).2; have := (vkx124).1; have := (vkx124).2; have := (vkx133).1; have := (vkx133).2; have := ((q_c (k := 3) (x := 3) (by decide))).1; have := ((q_c (k := 3) (x := 3) (by decide))).2; have := Int32.le_iff_toInt_le.mp kc128; have := q_ine kc138; have := congrArg Int32.toInt kc144; have := congrArg Int32.toInt kc151; omega) (by show (3 : Int32).toInt ≠ 0 → (kx124 : Int32).toInt ≤ 199; have := (vkx122).1; have := (vkx122).2; have := (vkx124).1; have := (vkx124).2; have := (vkx124).1; have := (vkx124).2; have := (vkx133).1; have := (vkx133).2; have := ((q_c (k := 3) (x := 3) (by decide))).1; have := ((q_c (k := 3) (x := 3) (by decide))).2; have := Int32.le_iff_toInt_le.mp kc128; have := q_ine kc138; have := congrArg Int32.toInt kc144; have := congrArg Int32.toInt kc151; omega) ls (lv_sub hl [0] rfl) (Nat.lt_succ_self _)
            · have kv155 : q_V 0 199 kx124 := kp147.2.1 kc151
              have kh156 : (kx124 : Int32).toInt < (kx122 : Int32).toInt := by have q_h := kp147.2.2 kc151; rw [(kf149.I 11 h0 (by decide)).symm.trans (((((kf149.I _ h0 (by decide)).trans (kf142.I _ h0 (by decide))).trans (kp135.2.1 _ _ (Or.inr (by decide)))).trans (kp131.2.1 _ _ (Or.inr (by decide)))).trans ke123)] at q_h; exact q_h
              have kv157 : q_V 1 1 kx150 := q_ne1 kp147.1 (q_c (k := 0) (x := 0) (by decide)) kc151 (by decide)
              refine lv_iconst (v := 2) hx hb dX12_next_98 (by decide) ?_
              refine lv_goto (tgt := 103) hx hb dX12_next_99 (by decide) ?_
              refine q_puti hE hW h0 rfl q_k12 tyX12 tyX12_ok 13 (by decide) rfl (hE.l wl_352) rfl rfl rfl ((q_c (k := 2) (x := 2) (by decide)).w (by decide) (by decide)) (by decide) dX12_next_103 (fun H locs ks158 kp159 hW => ?_)
              exact lp106a _ _ _ _ kx122 vkx122 ((((((kp159.2.1 _ _ (Or.inr (by decide))).trans (kf149.I _ h0 (by decide))).trans (kf142.I _ h0 (by decide))).trans (kp135.2.1 _ _ (Or.inr (by decide)))).trans (kp131.2.1 _ _ (Or.inr (by decide)))).trans ke123) kx124 (kv155.w (by decide) (by decide)) ((((((kp159.2.1 _ _ (Or.inr (by decide))).trans (kf149.I _ h0 (by decide))).trans (kf142.I _ h0 (by decide))).trans (kp135.2.1 _ _ (Or.inr (by decide)))).trans (kp131.2.1 _ _ (Or.inr (by decide)))).trans ke125) 2 ((q_c (k := 2) (x := 2) (by decide)).w (by decide) (by decide)) kp159.1 kx124 (kv155.w (by decide) (by decide)) (((((kp159.2.1 _ _ (Or.inr (by decide))).trans (kf149.I _ h0 (by decide))).trans (kf142.I _ h0 (by decide))).trans (kp135.2.1 _ _ (Or.inr (by decide)))).trans kp131.1) kx133 vkx133 ((((kp159.2.1 _ _ (Or.inr (by decide))).trans (kf149.I _ h0 (by decide))).trans (kf142.I _ h0 (by decide))).trans kp135.1) hW (((((hff0a.wI kp131 (by decide)).wI kp135 (by decide)).fr kf142 h0 (by decide)).fr kf149 h0 (by decide)).wI kp159 (by decide)) (by show (kx124 : Int32).toInt ≤ (kx122 : Int32).toInt; have := (vkx122).1; have := (vkx122).2; have := (kv155).1; have := (kv155).2; have := (kv155).1; have := (kv155).2; have := (vkx133).1; have := (vkx133).2; have := ((q_c (k := 2) (x := 2) (by decide))).1; have := ((q_c (k := 2) (x := 2) (by decide))).2; have := Int32.le_iff_toInt_le.mp kc128; have := q_ine kc138; have := congrArg Int32.toInt kc144; have := q_ine kc151; omega) (by show (2 : Int32).toInt ≠ 0 → (kx133 : Int32).toInt ≤ (kx122 : Int32).toInt; have := (vkx122).1; have := (vkx122).2; have := (kv155).1; have := (kv155).2; have := (kv155).1; have := (kv155).2; have := (vkx133).1; have := (vkx133).2; have := ((q_c (k := 2) (x := 2) (by decide))).1; have := ((q_c (k := 2) (x := 2) (by decide))).2; have := Int32.le_iff_toInt_le.mp kc128; have := q_ine kc138; have := congrArg Int32.toInt kc144; have := q_ine kc151; omega) (by show (2 : Int32).toInt ≠ 0 → (kx124 : Int32).toInt ≤ 199; have := (vkx122).1; have := (vkx122).2; have := (kv155).1; have := (kv155).2; have := (kv155).1; have := (kv155).2; have := (vkx133).1; have := (vkx133).2; have := ((q_c (k := 2) (x := 2) (by decide))).1; have := ((q_c (k := 2) (x := 2) (by decide))).2; have := Int32.le_iff_toInt_le.mp kc128; have := q_ine kc138; have := congrArg Int32.toInt kc144; have := q_ine kc151; omega) ls (lv_sub hl [0] rfl) (Nat.lt_succ_self _)
          · have kv160 : q_V 0 199 kx124 := kp140.2.1 kc144
            have kh161 : (kx124 : Int32).toInt < (kx122 : Int32).toInt := by have q_h := kp140.2.2 kc144; rw [(kf142.I 11 h0 (by decide)).symm.trans ((((kf142.I _ h0 (by decide)).trans (kp135.2.1 _ _ (Or.inr (by decide)))).trans (kp131.2.1 _ _ (Or.inr (by decide)))).trans ke123)] at q_h; exact q_h
            have kv162 : q_V 1 1 kx143 := q_ne1 kp140.1 (q_c (k := 0) (x := 0) (by decide)) kc144 (by decide)
            refine lv_iconst (v := 1) hx hb dX12_next_83 (by decide) ?_
            refine lv_goto (tgt := 103) hx hb dX12_next_84 (by decide) ?_
            refine q_puti hE hW h0 rfl q_k12 tyX12 tyX12_ok 13 (by decide) rfl (hE.l wl_352) rfl rfl rfl ((q_c (k := 1) (x := 1) (by decide)).w (by decide) (by decide)) (by decide) dX12_next_103 (fun H locs ks163 kp164 hW => ?_)
            exact lp106a _ _ _ _ kx122 vkx122 (((((kp164.2.1 _ _ (Or.inr (by decide))).trans (kf142.I _ h0 (by decide))).trans (kp135.2.1 _ _ (Or.inr (by decide)))).trans (kp131.2.1 _ _ (Or.inr (by decide)))).trans ke123) kx124 (kv160.w (by decide) (by decide)) (((((kp164.2.1 _ _ (Or.inr (by decide))).trans (kf142.I _ h0 (by decide))).trans (kp135.2.1 _ _ (Or.inr (by decide)))).trans (kp131.2.1 _ _ (Or.inr (by decide)))).trans ke125) 1 ((q_c (k := 1) (x := 1) (by decide)).w (by decide) (by decide)) kp164.1 kx124 (kv160.w (by decide) (by decide)) ((((kp164.2.1 _ _ (Or.inr (by decide))).trans (kf142.I _ h0 (by decide))).trans (kp135.2.1 _ _ (Or.inr (by decide)))).trans kp131.1) kx133 vkx133 (((kp164.2.1 _ _ (Or.inr (by decide))).trans (kf142.I _ h0 (by decide))).trans kp135.1) hW ((((hff0a.wI kp131 (by decide)).wI kp135 (by decide)).fr kf142 h0 (by decide)).wI kp164 (by decide)) (by show (kx124 : Int32).toInt ≤ (kx122 : Int32).toInt; have := (vkx122).1; have := (vkx122).2; have := (kv160).1; have := (kv160).2; have := (kv160).1; have := (kv160).2; have := (vkx133).1; have := (vkx133).2; have := ((q_c (k := 1) (x := 1) (by decide))).1; have := ((q_c (k := 1) (x := 1) (by decide))).2; have := Int32.le_iff_toInt_le.mp kc128; have := q_ine kc138; have := q_ine kc144; omega) (by show (1 : Int32).toInt ≠ 0 → (kx133 : Int32).toInt ≤ (kx122 : Int32).toInt; have := (vkx122).1; have := (vkx122).2; have := (kv160).1; have := (kv160).2; have := (kv160).1; have := (kv160).2; have := (vkx133).1; have := (vkx133).2; have := ((q_c (k := 1) (x := 1) (by decide))).1; have := ((q_c (k := 1) (x := 1) (by decide))).2; have := Int32.le_iff_toInt_le.mp kc128; have := q_ine kc138; have := q_ine kc144; omega) (by show (1 : Int32).toInt ≠ 0 → (kx124 : Int32).toInt ≤ 199; have := (vkx122).1; have := (vkx122).2; have := (kv160).1; have := (kv160).2; have := (kv160).1; have := (kv160).2; have := (vkx133).1; have := (vkx133).2; have := ((q_c (k := 1) (x := 1) (by decide))).1; have := ((q_c (k := 1) (x := 1) (by decide))).2; have := Int32.le_iff_toInt_le.mp kc128; have := q_ine kc138; have := q_ine kc144; omega) ls (lv_sub hl [0] rfl) (Nat.lt_succ_self _)
        · refine lv_iconst (v := 0) hx hb dX12_next_68 (by decide) ?_
          refine lv_goto (tgt := 103) hx hb dX12_next_69 (by decide) ?_
          refine q_puti hE hW h0 rfl q_k12 tyX12 tyX12_ok 13 (by decide) rfl (hE.l wl_352) rfl rfl rfl ((q_c (k := 0) (x := 0) (by decide)).w (by decide) (by decide)) (by decide) dX12_next_103 (fun H locs ks165 kp166 hW => ?_)
          exact lp106a _ _ _ _ kx122 vkx122 ((((kp166.2.1 _ _ (Or.inr (by decide))).trans (kp135.2.1 _ _ (Or.inr (by decide)))).trans (kp131.2.1 _ _ (Or.inr (by decide)))).trans ke123) kx124 vkx124 ((((kp166.2.1 _ _ (Or.inr (by decide))).trans (kp135.2.1 _ _ (Or.inr (by decide)))).trans (kp131.2.1 _ _ (Or.inr (by decide)))).trans ke125) 0 ((q_c (k := 0) (x := 0) (by decide)).w (by decide) (by decide)) kp166.1 kx124 vkx124 (((kp166.2.1 _ _ (Or.inr (by decide))).trans (kp135.2.1 _ _ (Or.inr (by decide)))).trans kp131.1) kx133 vkx133 ((kp166.2.1 _ _ (Or.inr (by decide))).trans kp135.1) hW (((hff0a.wI kp131 (by decide)).wI kp135 (by decide)).wI kp166 (by decide)) (by show (kx124 : Int32).toInt ≤ (kx122 : Int32).toInt; have := (vkx122).1; have := (vkx122).2; have := (vkx124).1; have := (vkx124).2; have := (vkx124).1; have := (vkx124).2; have := (vkx133).1; have := (vkx133).2; have := ((q_c (k := 0) (x := 0) (by decide))).1; have := ((q_c (k := 0) (x := 0) (by decide))).2; have := Int32.le_iff_toInt_le.mp kc128; have := congrArg Int32.toInt kc138; omega) (by show (0 : Int32).toInt ≠ 0 → (kx133 : Int32).toInt ≤ (kx122 : Int32).toInt; have := (vkx122).1; have := (vkx122).2; have := (vkx124).1; have := (vkx124).2; have := (vkx124).1; have := (vkx124).2; have := (vkx133).1; have := (vkx133).2; have := ((q_c (k := 0) (x := 0) (by decide))).1; have := ((q_c (k := 0) (x := 0) (by decide))).2; have := Int32.le_iff_toInt_le.mp kc128; have := congrArg Int32.toInt kc138; omega) (by show (0 : Int32).toInt ≠ 0 → (kx124 : Int32).toInt ≤ 199; have := (vkx122).1; have := (vkx122).2; have := (vkx124).1; have := (vkx124).2; have := (vkx124).1; have := (vkx124).2; have := (vkx133).1; have := (vkx133).2; have := ((q_c (k := 0) (x := 0) (by decide))).1; have := ((q_c (k := 0) (x := 0) (by decide))).2; have := Int32.le_iff_toInt_le.mp kc128; have := congrArg Int32.toInt kc138; omega) ls (lv_sub hl [0] rfl) (Nat.lt_succ_self _)
      · have kv167 : q_V 0 199 kx124 := (q_lt1 vkx124 vkx122 (Int32.not_le.mp kc128)).w (by decide) (by decide)
        have kv168 : q_V 1 200 kx122 := (q_lt2 vkx124 vkx122 (Int32.not_le.mp kc128)).w (by decide) (by decide)
        refine lv_aload_n hx hb dX12_next_11 rfl (lv_at hl 0 rfl) ?_
        refine q_getr hE hW h0 rfl q_k12 10 (by decide) rfl (hE.l wl_136) dX12_next_12 (fun kb169 ekb169 hkb169a hkb169b => ?_)
        have hkb169 : q_T G kb169 = 47 := q_tag hkb169a hkb169b
        refine lv_aload_n hx hb dX12_next_15 rfl (lv_at hl 0 rfl) ?_
        refine q_geti hE hW h0 rfl q_k12 12 (by decide) rfl (hE.l wl_351) dX12_next_16 (fun kx170 ekx170 vkx170 => ?_)
        obtain rfl : kx124 = kx170 := ke125.symm.trans ekx170
        refine q_iald hE hW hkb169 rfl (q_in kv167 (by decide) (by decide)) dX12_next_19 (fun kx171 ekx171 gkx171 => ?_)
        refine lv_bipush (v := 32) hx hb dX12_next_20 (by decide) ?_
        refine lv_icmp_ne (tgt := 38) hx hb dX12_next_22 (by decide) (fun kc172 => ?_) (fun kc172 => ?_)
        · refine lv_aload_n hx hb dX12_next_38 rfl (lv_at hl 0 rfl) ?_
          refine lv_aload_n hx hb dX12_next_39 rfl (lv_at hl 0 rfl) ?_
          refine q_geti hE hW h0 rfl q_k12 12 (by decide) rfl (hE.l wl_351) dX12_next_40 (fun kx173 ekx173 vkx173 => ?_)
          obtain rfl : kx124 = kx173 := ke125.symm.trans ekx173
          refine q_puti hE hW h0 rfl q_k12 tyX12 tyX12_ok 14 (by decide) rfl (hE.l wl_346) rfl rfl rfl (kv167.w (by decide) (by decide)) (by decide) dX12_next_43 (fun H locs ks174 kp175 hW => ?_)
          refine lv_aload_n hx hb dX12_next_46 rfl (lv_at hl 0 rfl) ?_
          refine lv_aload_n hx hb dX12_next_47 rfl (lv_at hl 0 rfl) ?_
          refine q_geti hE hW h0 rfl q_k12 12 (by decide) rfl (hE.l wl_351) dX12_next_48 (fun kx176 ekx176 vkx176 => ?_)
          obtain rfl : kx124 = kx176 := ((kp175.2.1 _ _ (Or.inr (by decide))).trans ke125).symm.trans ekx176
          refine lv_iconst (v := 1) hx hb dX12_next_51 (by decide) ?_
          refine lv_iadd hx hb dX12_next_52 ?_
          refine lv_topi (fun kx177 ekx177 => ?_)
          have vkx177 : q_V 1 200 kx177 := by rw [ekx177]; exact (q_add kv167 (q_c (k := 1) (x := 1) (by decide)) (by decide) (by decide)).w (by decide) (by decide)
          have ikx177 : kx177.toInt = kx124.toInt + 1 := q_incT ekx177 kv167 (by decide) (by decide) (by decide)
          refine q_puti hE hW h0 rfl q_k12 tyX12 tyX12_ok 15 (by decide) rfl (hE.l wl_369) rfl rfl rfl (vkx177.w (by decide) (by decide)) (by decide) dX12_next_53 (fun H locs ks178 kp179 hW => ?_)
          refine lv_aload_n hx hb dX12_next_56 rfl (lv_at hl 0 rfl) ?_
          refine lv_aload_n hx hb dX12_next_57 rfl (lv_at hl 0 rfl) ?_
          refine q_geti hE hW h0 rfl q_k12 12 (by decide) rfl (hE.l wl_351) dX12_next_58 (fun kx180 ekx180 vkx180 => ?_)
          obtain rfl : kx124 = kx180 := (((kp179.2.1 _ _ (Or.inr (by decide))).trans (kp175.2.1 _ _ (Or.inr (by decide)))).trans ke125).symm.trans ekx180
          refine lv_aload_n hx hb dX12_next_61 rfl (lv_at hl 0 rfl) ?_
          refine q_geti hE hW h0 rfl q_k12 11 (by decide) rfl (hE.l wl_171) dX12_next_62 (fun kx181 ekx181 vkx181 => ?_)
          obtain rfl : kx122 = kx181 := (((kp179.2.1 _ _ (Or.inr (by decide))).trans (kp175.2.1 _ _ (Or.inr (by decide)))).trans ke123).symm.trans ekx181
          refine lv_icmp_ne (tgt := 72) hx hb dX12_next_65 (by decide) (fun kc182 => ?_) (fun kc182 => ?_)
          · refine lv_aload_n hx hb dX12_next_72 rfl (lv_at hl 0 rfl) ?_
            refine lv_aload_n hx hb dX12_next_73 rfl (lv_at hl 0 rfl) ?_
            refine q_geti hE hW h0 rfl q_k12 12 (by decide) rfl (hE.l wl_351) dX12_next_74 (fun kx183 ekx183 vkx183 => ?_)
            obtain rfl : kx124 = kx183 := (((kp179.2.1 _ _ (Or.inr (by decide))).trans (kp175.2.1 _ _ (Or.inr (by decide)))).trans ke125).symm.trans ekx183
            refine q_goi hW (q_runV (As := [.int kx124]) (rest := [.ref a0]) hE hW (c_X12_isSmall l G ks178 a0 h0 kx124 (kv167.w (by decide) (by decide))) kw_X12_128 (q_recv hE hW h0 rfl q_k12) rfl hl.1 rfl (Nat.le_of_ble_eq_true rfl) dX12_next_77 ⟨by decide, by decide⟩ ⟨by decide, by decide⟩) (by decide) (fun kx187 ks185 H locs kp184 kf186 hW => ?_)
            refine lv_if_eq (tgt := 87) hx hb dX12_next_80 (by decide) (fun kc188 => ?_) (fun kc188 => ?_)
            · have kv189 : q_V 0 0 kx187 := q_eq1 kp184.1 (q_c (k := 0) (x := 0) (by decide)) kc188 (by decide) (by decide)
              refine lv_aload_n hx hb dX12_next_87 rfl (lv_at hl 0 rfl) ?_
              refine lv_aload_n hx hb dX12_next_88 rfl (lv_at hl 0 rfl) ?_
              refine q_geti hE hW h0 rfl q_k12 12 (by decide) rfl (hE.l wl_351) dX12_next_89 (fun kx190 ekx190 vkx190 => ?_)
              obtain rfl : kx124 = kx190 := ((((kf186.I _ h0 (by decide)).trans (kp179.2.1 _ _ (Or.inr (by decide)))).trans (kp175.2.1 _ _ (Or.inr (by decide)))).trans ke125).symm.trans ekx190
              refine q_goi hW (q_runV (As := [.int kx124]) (rest := [.ref a0]) hE hW (c_X12_isDigit l G ks185 a0 h0 kx124 (kv167.w (by decide) (by decide))) kw_X12_132 (q_recv hE hW h0 rfl q_k12) rfl hl.1 rfl (Nat.le_of_ble_eq_true rfl) dX12_next_92 ⟨by decide, by decide⟩ ⟨by decide, by decide⟩) (by decide) (fun kx194 ks192 H locs kp191 kf193 hW => ?_)
              refine lv_if_eq (tgt := 102) hx hb dX12_next_95 (by decide) (fun kc195 => ?_) (fun kc195 => ?_)
              · have kv196 : q_V 0 0 kx194 := q_eq1 kp191.1 (q_c (k := 0) (x := 0) (by decide)) kc195 (by decide) (by decide)
                refine lv_iconst (v := 3) hx hb dX12_next_102 (by decide) ?_
                refine q_puti hE hW h0 rfl q_k12 tyX12 tyX12_ok 13 (by decide) rfl (hE.l wl_352) rfl rfl rfl ((q_c (k := 3) (x := 3) (by decide)).w (by decide) (by decide)) (by decide) dX12_next_103 (fun H locs ks197 kp198 hW => ?_)
                exact lp106a _ _ _ _ kx122 (kv168.w (by decide) (by decide)) ((((((kp198.2.1 _ _ (Or.inr (by decide))).trans (kf193.I _ h0 (by decide))).trans (kf186.I _ h0 (by decide))).trans (kp179.2.1 _ _ (Or.inr (by decide)))).trans (kp175.2.1 _ _ (Or.inr (by decide)))).trans ke123) kx124 (kv167.w (by decide) (by decide)) ((((((kp198.2.1 _ _ (Or.inr (by decide))).trans (kf193.I _ h0 (by decide))).trans (kf186.I _ h0 (by decide))).trans (kp179.2.1 _ _ (Or.inr (by decide)))).trans (kp175.2.1 _ _ (Or.inr (by decide)))).trans ke125) 3 ((q_c (k := 3) (x := 3) (by decide)).w (by decide) (by decide)) kp198.1 kx124 (kv167.w (by decide) (by decide)) (((((kp198.2.1 _ _ (Or.inr (by decide))).trans (kf193.I _ h0 (by decide))).trans (kf186.I _ h0 (by decide))).trans (kp179.2.1 _ _ (Or.inr (by decide)))).trans kp175.1) kx177 (vkx177.w (by decide) (by decide)) ((((kp198.2.1 _ _ (Or.inr (by decide))).trans (kf193.I _ h0 (by decide))).trans (kf186.I _ h0 (by decide))).trans kp179.1) hW (((((hff0a.wI kp175 (by decide)).wI kp179 (by decide)).fr kf186 h0 (by decide)).fr kf193 h0 (by decide)).wI kp198 (by decide)) (by show (kx124 : Int32).toInt ≤ (kx122 : Int32).toInt; have := (kv168).1; have := (kv168).2; have := (kv167).1; have := (kv167).2; have := (kv167).1; have := (kv167).2; have := (vkx177).1; have := (vkx177).2; have := ((q_c (k := 3) (x := 3) (by decide))).1; have := ((q_c (k := 3) (x := 3) (by decide))).2; have := Int32.lt_iff_toInt_lt.mp (Int32.not_le.mp kc128); have := q_ine kc172; have := q_ine kc182; have := congrArg Int32.toInt kc188; have := congrArg Int32.toInt kc195; omega) (by show (3 : Int32).toInt ≠ 0 → (kx177 : Int32).toInt ≤ (kx122 : Int32).toInt; have := (kv168).1; have := (kv168).2; have := (kv167).1; have := (kv167).2; have := (kv167).1; have := (kv167).2; have := (vkx177).1; have := (vkx177).2; have := ((q_c (k := 3) (x := 3) (by decide))).1; have := ((q_c (k := 3) (x := 3) (by decide))).2; have := Int32.lt_iff_toInt_lt.mp (Int32.not_le.mp kc128); have := q_ine kc172; have := q_ine kc182; have := congrArg Int32.toInt kc188; have := congrArg Int32.toInt kc195; omega) (by show (3 : Int32).toInt ≠ 0 → (kx124 : Int32).toInt ≤ 199; have := (kv168).1; have := (kv168).2; have := (kv167).1; have := (kv167).2; have := (kv167).1; have := (kv167).2; have := (vkx177).1; have := (vkx177).2; have := ((q_c (k := 3) (x := 3) (by decide))).1; have := ((q_c (k := 3) (x := 3) (by decide))).2; have := Int32.lt_iff_toInt_lt.mp (Int32.not_le.mp kc128); have := q_ine kc172; have := q_ine kc182; have := congrArg Int32.toInt kc188; have := congrArg Int32.toInt kc195; omega) ls (lv_sub hl [0] rfl) (Nat.lt_succ_self _)
              · have kh199 : (kx124 : Int32).toInt < (kx122 : Int32).toInt := by have q_h := kp191.2.2 kc195; rw [(kf193.I 11 h0 (by decide)).symm.trans (((((kf193.I _ h0 (by decide)).trans (kf186.I _ h0 (by decide))).trans (kp179.2.1 _ _ (Or.inr (by decide)))).trans (kp175.2.1 _ _ (Or.inr (by decide)))).trans ke123)] at q_h; exact q_h
                have kv200 : q_V 1 1 kx194 := q_ne1 kp191.1 (q_c (k := 0) (x := 0) (by decide)) kc195 (by decide)
                refine lv_iconst (v := 2) hx hb dX12_next_98 (by decide) ?_
                refine lv_goto (tgt := 103) hx hb dX12_next_99 (by decide) ?_
                refine q_puti hE hW h0 rfl q_k12 tyX12 tyX12_ok 13 (by decide) rfl (hE.l wl_352) rfl rfl rfl ((q_c (k := 2) (x := 2) (by decide)).w (by decide) (by decide)) (by decide) dX12_next_103 (fun H locs ks201 kp202 hW => ?_)
                exact lp106a _ _ _ _ kx122 (kv168.w (by decide) (by decide)) ((((((kp202.2.1 _ _ (Or.inr (by decide))).trans (kf193.I _ h0 (by decide))).trans (kf186.I _ h0 (by decide))).trans (kp179.2.1 _ _ (Or.inr (by decide)))).trans (kp175.2.1 _ _ (Or.inr (by decide)))).trans ke123) kx124 (kv167.w (by decide) (by decide)) ((((((kp202.2.1 _ _ (Or.inr (by decide))).trans (kf193.I _ h0 (by decide))).trans (kf186.I _ h0 (by decide))).trans (kp179.2.1 _ _ (Or.inr (by decide)))).trans (kp175.2.1 _ _ (Or.inr (by decide)))).trans ke125) 2 ((q_c (k := 2) (x := 2) (by decide)).w (by decide) (by decide)) kp202.1 kx124 (kv167.w (by decide) (by decide)) (((((kp202.2.1 _ _ (Or.inr (by decide))).trans (kf193.I _ h0 (by decide))).trans (kf186.I _ h0 (by decide))).trans (kp179.2.1 _ _ (Or.inr (by decide)))).trans kp175.1) kx177 (vkx177.w (by decide) (by decide)) ((((kp202.2.1 _ _ (Or.inr (by decide))).trans (kf193.I _ h0 (by decide))).trans (kf186.I _ h0 (by decide))).trans kp179.1) hW (((((hff0a.wI kp175 (by decide)).wI kp179 (by decide)).fr kf186 h0 (by decide)).fr kf193 h0 (by decide)).wI kp202 (by decide)) (by show (kx124 : Int32).toInt ≤ (kx122 : Int32).toInt; have := (kv168).1; have := (kv168).2; have := (kv167).1; have := (kv167).2; have := (kv167).1; have := (kv167).2; have := (vkx177).1; have := (vkx177).2; have := ((q_c (k := 2) (x := 2) (by decide))).1; have := ((q_c (k := 2) (x := 2) (by decide))).2; have := Int32.lt_iff_toInt_lt.mp (Int32.not_le.mp kc128); have := q_ine kc172; have := q_ine kc182; have := congrArg Int32.toInt kc188; have := q_ine kc195; omega) (by show (2 : Int32).toInt ≠ 0 → (kx177 : Int32).toInt ≤ (kx122 : Int32).toInt; have := (kv168).1; have := (kv168).2; have := (kv167).1; have := (kv167).2; have := (kv167).1; have := (kv167).2; have := (vkx177).1; have := (vkx177).2; have := ((q_c (k := 2) (x := 2) (by decide))).1; have := ((q_c (k := 2) (x := 2) (by decide))).2; have := Int32.lt_iff_toInt_lt.mp (Int32.not_le.mp kc128); have := q_ine kc172; have := q_ine kc182; have := congrArg Int32.toInt kc188; have := q_ine kc195; omega) (by show (2 : Int32).toInt ≠ 0 → (kx124 : Int32).toInt ≤ 199; have := (kv168).1; have := (kv168).2; have := (kv167).1; have := (kv167).2; have := (kv167).1; have := (kv167).2; have := (vkx177).1; have := (vkx177).2; have := ((q_c (k := 2) (x := 2) (by decide))).1; have := ((q_c (k := 2) (x := 2) (by decide))).2; have := Int32.lt_iff_toInt_lt.mp (Int32.not_le.mp kc128); have := q_ine kc172; have := q_ine kc182; have := congrArg Int32.toInt kc188; have := q_ine kc195; omega) ls (lv_sub hl [0] rfl) (Nat.lt_succ_self _)
            · have kh203 : (kx124 : Int32).toInt < (kx122 : Int32).toInt := by have q_h := kp184.2.2 kc188; rw [(kf186.I 11 h0 (by decide)).symm.trans ((((kf186.I _ h0 (by decide)).trans (kp179.2.1 _ _ (Or.inr (by decide)))).trans (kp175.2.1 _ _ (Or.inr (by decide)))).trans ke123)] at q_h; exact q_h
              have kv204 : q_V 1 1 kx187 := q_ne1 kp184.1 (q_c (k := 0) (x := 0) (by decide)) kc188 (by decide)
              refine lv_iconst (v := 1) hx hb dX12_next_83 (by decide) ?_
              refine lv_goto (tgt := 103) hx hb dX12_next_84 (by decide) ?_
              refine q_puti hE hW h0 rfl q_k12 tyX12 tyX12_ok 13 (by decide) rfl (hE.l wl_352) rfl rfl rfl ((q_c (k := 1) (x := 1) (by decide)).w (by decide) (by decide)) (by decide) dX12_next_103 (fun H locs ks205 kp206 hW => ?_)
              exact lp106a _ _ _ _ kx122 (kv168.w (by decide) (by decide)) (((((kp206.2.1 _ _ (Or.inr (by decide))).trans (kf186.I _ h0 (by decide))).trans (kp179.2.1 _ _ (Or.inr (by decide)))).trans (kp175.2.1 _ _ (Or.inr (by decide)))).trans ke123) kx124 (kv167.w (by decide) (by decide)) (((((kp206.2.1 _ _ (Or.inr (by decide))).trans (kf186.I _ h0 (by decide))).trans (kp179.2.1 _ _ (Or.inr (by decide)))).trans (kp175.2.1 _ _ (Or.inr (by decide)))).trans ke125) 1 ((q_c (k := 1) (x := 1) (by decide)).w (by decide) (by decide)) kp206.1 kx124 (kv167.w (by decide) (by decide)) ((((kp206.2.1 _ _ (Or.inr (by decide))).trans (kf186.I _ h0 (by decide))).trans (kp179.2.1 _ _ (Or.inr (by decide)))).trans kp175.1) kx177 (vkx177.w (by decide) (by decide)) (((kp206.2.1 _ _ (Or.inr (by decide))).trans (kf186.I _ h0 (by decide))).trans kp179.1) hW ((((hff0a.wI kp175 (by decide)).wI kp179 (by decide)).fr kf186 h0 (by decide)).wI kp206 (by decide)) (by show (kx124 : Int32).toInt ≤ (kx122 : Int32).toInt; have := (kv168).1; have := (kv168).2; have := (kv167).1; have := (kv167).2; have := (kv167).1; have := (kv167).2; have := (vkx177).1; have := (vkx177).2; have := ((q_c (k := 1) (x := 1) (by decide))).1; have := ((q_c (k := 1) (x := 1) (by decide))).2; have := Int32.lt_iff_toInt_lt.mp (Int32.not_le.mp kc128); have := q_ine kc172; have := q_ine kc182; have := q_ine kc188; omega) (by show (1 : Int32).toInt ≠ 0 → (kx177 : Int32).toInt ≤ (kx122 : Int32).toInt; have := (kv168).1; have := (kv168).2; have := (kv167).1; have := (kv167).2; have := (kv167).1; have := (kv167).2; have := (vkx177).1; have := (vkx177).2; have := ((q_c (k := 1) (x := 1) (by decide))).1; have := ((q_c (k := 1) (x := 1) (by decide))).2; have := Int32.lt_iff_toInt_lt.mp (Int32.not_le.mp kc128); have := q_ine kc172; have := q_ine kc182; have := q_ine kc188; omega) (by show (1 : Int32).toInt ≠ 0 → (kx124 : Int32).toInt ≤ 199; have := (kv168).1; have := (kv168).2; have := (kv167).1; have := (kv167).2; have := (kv167).1; have := (kv167).2; have := (vkx177).1; have := (vkx177).2; have := ((q_c (k := 1) (x := 1) (by decide))).1; have := ((q_c (k := 1) (x := 1) (by decide))).2; have := Int32.lt_iff_toInt_lt.mp (Int32.not_le.mp kc128); have := q_ine kc172; have := q_ine kc182; have := q_ine kc188; omega) ls (lv_sub hl [0] rfl) (Nat.lt_succ_self _)
          · have kv207 : q_V 1 199 kx124 := q_eq1 kv167 kv168 kc182 (by decide) (by decide)
            have kv208 : q_V 1 199 kx122 := q_eq2 kv167 kv168 kc182 (by decide) (by decide)
            refine lv_iconst (v := 0) hx hb dX12_next_68 (by decide) ?_
            refine lv_goto (tgt := 103) hx hb dX12_next_69 (by decide) ?_
            refine q_puti hE hW h0 rfl q_k12 tyX12 tyX12_ok 13 (by decide) rfl (hE.l wl_352) rfl rfl rfl ((q_c (k := 0) (x := 0) (by decide)).w (by decide) (by decide)) (by decide) dX12_next_103 (fun H locs ks209 kp210 hW => ?_)
            exact lp106a _ _ _ _ kx122 (kv208.w (by decide) (by decide)) ((((kp210.2.1 _ _ (Or.inr (by decide))).trans (kp179.2.1 _ _ (Or.inr (by decide)))).trans (kp175.2.1 _ _ (Or.inr (by decide)))).trans ke123) kx124 (kv207.w (by decide) (by decide)) ((((kp210.2.1 _ _ (Or.inr (by decide))).trans (kp179.2.1 _ _ (Or.inr (by decide)))).trans (kp175.2.1 _ _ (Or.inr (by decide)))).trans ke125) 0 ((q_c (k := 0) (x := 0) (by decide)).w (by decide) (by decide)) kp210.1 kx124 (kv207.w (by decide) (by decide)) (((kp210.2.1 _ _ (Or.inr (by decide))).trans (kp179.2.1 _ _ (Or.inr (by decide)))).trans kp175.1) kx177 (vkx177.w (by decide) (by decide)) ((kp210.2.1 _ _ (Or.inr (by decide))).trans kp179.1) hW (((hff0a.wI kp175 (by decide)).wI kp179 (by decide)).wI kp210 (by decide)) (by show (kx124 : Int32).toInt ≤ (kx122 : Int32).toInt; have := (kv208).1; have := (kv208).2; have := (kv207).1; have := (kv207).2; have := (kv207).1; have := (kv207).2; have := (vkx177).1; have := (vkx177).2; have := ((q_c (k := 0) (x := 0) (by decide))).1; have := ((q_c (k := 0) (x := 0) (by decide))).2; have := Int32.lt_iff_toInt_lt.mp (Int32.not_le.mp kc128); have := q_ine kc172; have := congrArg Int32.toInt kc182; omega) (by show (0 : Int32).toInt ≠ 0 → (kx177 : Int32).toInt ≤ (kx122 : Int32).toInt; have := (kv208).1; have := (kv208).2; have := (kv207).1; have := (kv207).2; have := (kv207).1; have := (kv207).2; have := (vkx177).1; have := (vkx177).2; have := ((q_c (k := 0) (x := 0) (by decide))).1; have := ((q_c (k := 0) (x := 0) (by decide))).2; have := Int32.lt_iff_toInt_lt.mp (Int32.not_le.mp kc128); have := q_ine kc172; have := congrArg Int32.toInt kc182; omega) (by show (0 : Int32).toInt ≠ 0 → (kx124 : Int32).toInt ≤ 199; have := (kv208).1; have := (kv208).2; have := (kv207).1; have := (kv207).2; have := (kv207).1; have := (kv207).2; have := (vkx177).1; have := (vkx177).2; have := ((q_c (k := 0) (x := 0) (by decide))).1; have := ((q_c (k := 0) (x := 0) (by decide))).2; have := Int32.lt_iff_toInt_lt.mp (Int32.not_le.mp kc128); have := q_ine kc172; have := congrArg Int32.toInt kc182; omega) ls (lv_sub hl [0] rfl) (Nat.lt_succ_self _)
        · have kv211 : q_V 32 32 kx171 := q_eq1 (q_all kx171) (q_c (k := 32) (x := 32) (by decide)) kc172 (by decide) (by decide)
          refine lv_aload_n hx hb dX12_next_25 rfl (lv_at hl 0 rfl) ?_
          refine lv_dup hx hb dX12_next_26 rfl ?_
          refine q_geti hE hW h0 rfl q_k12 12 (by decide) rfl (hE.l wl_351) dX12_next_27 (fun kx212 ekx212 vkx212 => ?_)
          obtain rfl : kx124 = kx212 := ke125.symm.trans ekx212
          refine lv_iconst (v := 1) hx hb dX12_next_30 (by decide) ?_
          refine lv_iadd hx hb dX12_next_31 ?_
          refine lv_topi (fun kx213 ekx213 => ?_)
          have vkx213 : q_V 1 200 kx213 := by rw [ekx213]; exact (q_add kv167 (q_c (k := 1) (x := 1) (by decide)) (by decide) (by decide)).w (by decide) (by decide)
          have ikx213 : kx213.toInt = kx124.toInt + 1 := q_incT ekx213 kv167 (by decide) (by decide) (by decide)
          refine q_puti hE hW h0 rfl q_k12 tyX12 tyX12_ok 12 (by decide) rfl (hE.l wl_351) rfl rfl rfl (vkx213.w (by decide) (by decide)) (by decide) dX12_next_32 (fun H locs ks214 kp215 hW => ?_)
          refine lv_goto (tgt := 0) hx hb dX12_next_35 (by decide) ?_
          exact ih0a _ _ _ kx122 (kv168.w (by decide) (by decide)) ((kp215.2.1 _ _ (Or.inr (by decide))).trans ke123) kx213 (vkx213.w (by decide) (by decide)) kp215.1 hW (hff0a.wI kp215 (by decide)) (by show (kx213 : Int32).toInt ≤ (kx122 : Int32).toInt; have := (kv168).1; have := (kv168).2; have := (vkx213).1; have := (vkx213).2; have := Int32.lt_iff_toInt_lt.mp (Int32.not_le.mp kc128); have := congrArg Int32.toInt kc172; omega) ls (lv_sub hl [0] rfl) (Nat.lt_of_lt_of_le (q_hm (ikx213) ((Int32.not_le.mp kc128))) (Nat.le_of_lt_succ hm0a))
  obtain ⟨kx216, ekx216, vkx216⟩ := q_ghi hW h0 rfl 11 rfl
  obtain ⟨kx217, ekx217, vkx217⟩ := q_ghi hW h0 rfl 12 rfl
  exact lp0a _ _ _ _ kx216 vkx216 ekx216 kx217 vkx217 ekx217 hW q_ff.rf (by have q_h := hat; unfold q_at at q_h; rw [ekx217, ekx216] at q_h; exact q_h) ls (lv_sub hl [0] rfl) (Nat.lt_succ_self _)
set_option maxHeartbeats 4000000 in
set_option maxRecDepth 100000 in
theorem c_X12_wordNow (l : Launch) (G : q_G) (σ : q_S) (a0 : Nat) (h0 : q_T G a0 = 40) (htk : q_tk σ a0) : Met l yX12_wordNow (Cond.code yX12_wordNow cX12_wordNow 4 (some .long) :: wsL_law) (q_Rm 1) (q_Pre G σ [.ref a0]) (q_Ql G [] σ (fun r σ1 => True)) 0 0 (q_N G) := by
  refine q_ofW (ts := []) (by decide) (Nat.le_of_ble_eq_true rfl) ?_
  intro p e s m args below meth c hE hr hlocks hW ls hl
  have hE : q_E G p s m args c cX12_wordNow 4 RX12 := hE
  have hx := hE.1.1
  have hb := hE.1.2.1
  have hl : lv_has ls 4 [(0, .ref a0)] := hl
  have lp7a : ∀ (n7a : Nat) (ky1 : Int64) (kx2 : Int32) (vkx2 : q_V 0 201 kx2) (ls : Array Slot) (hl : lv_has ls 4 [(0, .ref a0), (1, .long ky1), (3, .int kx2)]), (201 - kx2.toInt).toNat < n7a → W p l e (q_Rm 1) s m args below meth c s.heap [] 0 0 (MQ below (q_Ql G [] σ (fun r σ1 => True)) args s 0 0 (q_N G)) (F0 m 7 ls []) := by
    intro n7a
    induction n7a with
    | zero => intro _ _ _ _ _; exact fun h => absurd h (Nat.not_lt_zero _)
    | succ n7a ih7a =>
      intro ky1 kx2 vkx2 ls hl hm7a
      have jn54a : ∀ (kv3 : q_V 0 200 kx2) (ky4 : Int64) (ls : Array Slot) (hl : lv_has ls 4 [(0, .ref a0), (3, .int kx2)]), W p l e (q_Rm 1) s m args below meth c s.heap [] 0 0 (MQ below (q_Ql G [] σ (fun r σ1 => True)) args s 0 0 (q_N G)) (F0 m 54 ls [.long ky4]) := by
        intro kv3 ky4 ls hl
        refine lv_lstore_n (lv' := [(1, .long ky4), (0, .ref a0), (3, .int kx2)]) hx hb dX12_wordNow_54 rfl hl (by decide) rfl (fun ls hl => ?_)
        obtain ⟨kx5, ekx5⟩ : ∃ y : Int32, y = kx2 + 1 := ⟨_, rfl⟩
        have vkx5 : q_V 1 201 kx5 := by rw [ekx5]; exact (q_add kv3 (q_c (k := 1) (x := 1) (by decide)) (by decide) (by decide)).w (by decide) (by decide)
        have ikx5 : kx5.toInt = kx2.toInt + 1 := q_incT ekx5 kv3 (by decide) (by decide) (by decide)
        refine lv_iinc (v := kx5) (lv' := [(3, .int kx5), (1, .long ky4), (0, .ref a0)]) hx hb dX12_wordNow_55 hl (k := 2) rfl (by rw [ekx5]; rfl) (by decide) rfl (fun ls hl => ?_)
        refine lv_goto (tgt := 7) hx hb dX12_wordNow_58 (by decide) ?_
        exact ih7a ky4 kx5 (vkx5.w (by decide) (by decide)) ls (lv_sub hl [2, 1, 0] rfl) (Nat.lt_of_lt_of_le (q_up (ikx5) (show q_V 1 201 kx5 from vkx5).2) (Nat.le_of_lt_succ hm7a))
      refine lv_iload_n hx hb dX12_wordNow_7 rfl (lv_at hl 2 rfl) ?_
      refine lv_aload_n hx hb dX12_wordNow_8 rfl (lv_at hl 0 rfl) ?_
      refine q_geti hE hW h0 rfl q_k12 15 (by decide) rfl (hE.l wl_369) dX12_wordNow_9 (fun kx6 ekx6 vkx6 => ?_)
      refine lv_icmp_ge (tgt := 61) hx hb dX12_wordNow_12 (by decide) (fun kc7 => ?_) (fun kc7 => ?_)
      · refine lv_lload_n hx hb dX12_wordNow_61 rfl (lv_at hl 1 rfl) ?_
        exact q_retl hE hr hlocks hW (trivial) dX12_wordNow_62
      · have kv8 : q_V 0 200 kx2 := (q_lt1 vkx2 vkx6 (Int32.not_le.mp kc7)).w (by decide) (by decide)
        have kv9 : q_V 1 201 kx6 := (q_lt2 vkx2 vkx6 (Int32.not_le.mp kc7)).w (by decide) (by decide)
        refine lv_aload_n hx hb dX12_wordNow_15 rfl (lv_at hl 0 rfl) ?_
        refine q_geti hE hW h0 rfl q_k12 13 (by decide) rfl (hE.l wl_352) dX12_wordNow_16 (fun kx10 ekx10 vkx10 => ?_)
        refine lv_iconst (v := 1) hx hb dX12_wordNow_19 (by decide) ?_
        refine lv_icmp_ne (tgt := 61) hx hb dX12_wordNow_20 (by decide) (fun kc11 => ?_) (fun kc11 => ?_)
        · refine lv_lload_n hx hb dX12_wordNow_61 rfl (lv_at hl 1 rfl) ?_
          exact q_retl hE hr hlocks hW (trivial) dX12_wordNow_62
        · have kv12 : q_V 1 1 kx10 := q_eq1 vkx10 (q_c (k := 1) (x := 1) (by decide)) kc11 (by decide) (by decide)
          refine lv_lload_n hx hb dX12_wordNow_23 rfl (lv_at hl 1 rfl) ?_
          refine lv_ldc2 (v := 100000000000) hx hb hE.1.2.2.2.1 (hE.w wl_400) dX12_wordNow_24 ?_
          refine W.lcmp hx hb dX12_wordNow_27 ?_
          refine lv_topi (fun kx13 ekx13 => ?_)
          refine lv_if_le (tgt := 35) hx hb dX12_wordNow_28 (by decide) (fun kc14 => ?_) (fun kc14 => ?_)
          · have kr15 : (ky1 : Int64) ≤ (100000000000 : Int64) := (lg_cmp_le (ky1 : Int64) (100000000000 : Int64)).mp (by rw [← ekx13]; exact kc14)
            have kv16 : q_V (-2147483648) 0 kx13 := (q_le1 (q_all kx13) (q_c (k := 0) (x := 0) (by decide)) kc14).w (by decide) (by decide)
            refine lv_ldc2 (v := 27) hx hb hE.1.2.2.2.1 (hE.w wl_401) dX12_wordNow_35 ?_
            refine lv_lload_n hx hb dX12_wordNow_38 rfl (lv_at hl 1 rfl) ?_
            refine lv_lmul hx hb dX12_wordNow_39 ?_
            refine lv_topl (fun ky17 eky17 => ?_)
            refine lv_aload_n hx hb dX12_wordNow_40 rfl (lv_at hl 0 rfl) ?_
            refine q_getr hE hW h0 rfl q_k12 10 (by decide) rfl (hE.l wl_136) dX12_wordNow_41 (fun kb18 ekb18 hkb18a hkb18b => ?_)
            have hkb18 : q_T G kb18 = 47 := q_tag hkb18a hkb18b
            refine lv_iload_n hx hb dX12_wordNow_44 rfl (lv_at hl 2 rfl) ?_
            have kh19 : (kx2 : Int32).toInt ≤ 199 := by have q_h := htk; unfold q_tk at q_h; rw [ekx10, ekx6] at q_h; have q_g := (q_h (by have := (kv12).1; have := (kv12).2; have := Int32.lt_iff_toInt_lt.mp (Int32.not_le.mp kc7); have := congrArg Int32.toInt kc11; have := Int32.le_iff_toInt_le.mp kc14; omega)).2; have := (kv8).1; have := (kv8).2; have := Int32.lt_iff_toInt_lt.mp (Int32.not_le.mp kc7); have := congrArg Int32.toInt kc11; have := Int32.le_iff_toInt_le.mp kc14; omega
            have kv20 : q_V 0 199 kx2 := ⟨(kv8).1, kh19⟩
            refine q_iald hE hW hkb18 rfl (q_in kv20 (by decide) (by decide)) dX12_wordNow_45 (fun kx21 ekx21 gkx21 => ?_)
            refine lv_i2l (v := kx21.toInt64) hx hb dX12_wordNow_46 rfl ?_
            refine lv_ladd hx hb dX12_wordNow_47 ?_
            refine lv_topl (fun ky22 eky22 => ?_)
            refine lv_ldc2 (v := 97) hx hb hE.1.2.2.2.1 (hE.w wl_375) dX12_wordNow_48 ?_
            refine lv_lsub hx hb dX12_wordNow_51 ?_
            refine lv_topl (fun ky23 eky23 => ?_)
            refine lv_lconst (v := 1) hx hb dX12_wordNow_52 (by decide) ?_
            refine lv_ladd hx hb dX12_wordNow_53 ?_
            refine lv_topl (fun ky24 eky24 => ?_)
            exact jn54a (kv20.w (by decide) (by decide)) ky24 ls (lv_sub hl [0, 2] rfl)
          · have kr25 : (100000000000 : Int64) < (ky1 : Int64) := (lg_cmp_gt (ky1 : Int64) (100000000000 : Int64)).mp (by rw [← ekx13]; exact (Int32.not_le.mp kc14))
            have kv26 : q_V 1 2147483647 kx13 := (q_lt2 (q_c (k := 0) (x := 0) (by decide)) (q_all kx13) (Int32.not_le.mp kc14)).w (by decide) (by decide)
            refine lv_lload_n hx hb dX12_wordNow_31 rfl (lv_at hl 1 rfl) ?_
            refine lv_goto (tgt := 54) hx hb dX12_wordNow_32 (by decide) ?_
            exact jn54a kv8 ky1 ls (lv_sub hl [0, 2] rfl)
  refine lv_lconst (v := 0) hx hb dX12_wordNow_0 (by decide) ?_
  refine lv_lstore_n (lv' := [(1, .long 0), (0, .ref a0)]) hx hb dX12_wordNow_1 rfl hl (by decide) rfl (fun ls hl => ?_)
  refine lv_aload_n hx hb dX12_wordNow_2 rfl (lv_at hl 1 rfl) ?_
  refine q_geti hE hW h0 rfl q_k12 14 (by decide) rfl (hE.l wl_346) dX12_wordNow_3 (fun kx27 ekx27 vkx27 => ?_)
  refine lv_istore_n (lv' := [(3, .int kx27), (1, .long 0), (0, .ref a0)]) hx hb dX12_wordNow_6 rfl hl (by decide) rfl (fun ls hl => ?_)
  exact lp7a _ 0 kx27 (vkx27.w (by decide) (by decide)) ls (lv_sub hl [2, 1, 0] rfl) (Nat.lt_succ_self _)
set_option maxHeartbeats 4000000 in
set_option maxRecDepth 100000 in
theorem c_X12_takes0 (l : Launch) (G : q_G) (σ : q_S) (a0 : Nat) (h0 : q_T G a0 = 40) (i1 : Int32) (i2 : Int32) (hat : q_at σ a0) : Met l yX12_takes0 (Cond.code yX12_takes0 cX12_takes0 3 (some .boolean) :: wsL_law) (q_Rm 4) (q_Pre G σ [.ref a0, .int i1, .int i2]) (q_Qi G [40] σ (fun r σ1 => q_V 0 1 r ∧ (r ≠ 0 → i1.toInt ≤ (q_I σ1 a0 16).toInt ∧ (q_I σ1 a0 16).toInt ≤ i2.toInt) ∧ q_at σ1 a0 ∧ q_tk σ1 a0 ∧ q_ff σ σ1 a0 [12, 13, 14, 15, 16])) 0 0 (q_N G) := by
  refine q_ofW (ts := [40]) (by decide) (Nat.le_of_ble_eq_true rfl) ?_
  intro p e s m args below meth c hE hr hlocks hW ls hl
  have hE : q_E G p s m args c cX12_takes0 3 RX12 := hE
  have hx := hE.1.1
  have hb := hE.1.2.1
  have hl : lv_has ls 3 [(0, .ref a0), (1, .int i1), (2, .int i2)] := hl
  refine lv_aload_n hx hb dX12_takes0_0 rfl (lv_at hl 0 rfl) ?_
  refine q_gov hW (q_runV (As := []) (rest := []) hE hW (c_X12_next l G σ a0 h0 hat) kw_X12_163 (q_recv hE hW h0 rfl q_k12) rfl hl.1 rfl (Nat.le_of_ble_eq_true rfl) dX12_takes0_1 ⟨by decide, by decide⟩ ⟨by decide, by decide⟩) (by decide) (fun ks2 H locs kp1 kf3 hW => ?_)
  refine lv_aload_n hx hb dX12_takes0_4 rfl (lv_at hl 0 rfl) ?_
  refine q_geti hE hW h0 rfl q_k12 13 (by decide) rfl (hE.l wl_352) dX12_takes0_5 (fun kx4 ekx4 vkx4 => ?_)
  refine lv_iconst (v := 2) hx hb dX12_takes0_8 (by decide) ?_
  refine lv_icmp_ne (tgt := 31) hx hb dX12_takes0_9 (by decide) (fun kc5 => ?_) (fun kc5 => ?_)
  · refine lv_iconst (v := 0) hx hb dX12_takes0_31 (by decide) ?_
    exact q_retz hE hr hlocks hW (Or.inl rfl) (⟨((q_c (k := 0) (x := 0) (by decide)).w (by decide) (by decide)), (fun q_h => absurd rfl q_h), kp1.1, kp1.2.1, (q_ff.rf.tr kp1.2.2 (by decide))⟩) dX12_takes0_32
  · have kv6 : q_V 2 2 kx4 := q_eq1 vkx4 (q_c (k := 2) (x := 2) (by decide)) kc5 (by decide) (by decide)
    refine lv_aload_n hx hb dX12_takes0_12 rfl (lv_at hl 0 rfl) ?_
    refine q_geti hE hW h0 rfl q_k12 16 (by decide) rfl (hE.l wl_370) dX12_takes0_13 (fun kx7 ekx7 vkx7 => ?_)
    refine lv_i2l (v := kx7.toInt64) hx hb dX12_takes0_16 rfl ?_
    refine lv_iload_n hx hb dX12_takes0_17 rfl (lv_at hl 1 rfl) ?_
    refine lv_i2l (v := i1.toInt64) hx hb dX12_takes0_18 rfl ?_
    refine lv_iload_n hx hb dX12_takes0_19 rfl (lv_at hl 2 rfl) ?_
    refine lv_i2l (v := i2.toInt64) hx hb dX12_takes0_20 rfl ?_
    refine q_goi hW (q_runS (As := [.long (kx7).toInt64, .long (i1).toInt64, .long (i2).toInt64]) (rest := []) hE hW (c_X12_in l G ks2 ((kx7).toInt64) ((i1).toInt64) ((i2).toInt64)) kw_X12_99 rfl hl.1 rfl (Nat.le_of_ble_eq_true rfl) dX12_takes0_21 ⟨by decide, by decide⟩ ⟨by decide, by decide⟩) (by decide) (fun kx11 ks9 H locs kp8 kf10 hW => ?_)
    refine lv_if_eq (tgt := 31) hx hb dX12_takes0_24 (by decide) (fun kc12 => ?_) (fun kc12 => ?_)
    · have kv13 : q_V 0 0 kx11 := q_eq1 kp8.1 (q_c (k := 0) (x := 0) (by decide)) kc12 (by decide) (by decide)
      refine lv_iconst (v := 0) hx hb dX12_takes0_31 (by decide) ?_
      exact q_retz hE hr hlocks hW (Or.inl rfl) (⟨((q_c (k := 0) (x := 0) (by decide)).w (by decide) (by decide)), (fun q_h => absurd rfl q_h), (q_atC kp1.1 (kf10.I _ h0 (by decide)) (kf10.I _ h0 (by decide))), (q_tkC kp1.2.1 (kf10.I _ h0 (by decide)) (kf10.I _ h0 (by decide)) (kf10.I _ h0 (by decide))), ((q_ff.rf.tr kp1.2.2 (by decide)).fr kf10 h0 (by decide))⟩) dX12_takes0_32
    · have kv14 : q_V 1 1 kx11 := q_ne1 kp8.1 (q_c (k := 0) (x := 0) (by decide)) kc12 (by decide)
      refine lv_iconst (v := 1) hx hb dX12_takes0_27 (by decide) ?_
      refine lv_goto (tgt := 32) hx hb dX12_takes0_28 (by decide) ?_
      exact q_retz hE hr hlocks hW (Or.inr rfl) (⟨((q_c (k := 1) (x := 1) (by decide)).w (by decide) (by decide)), (fun _ => q_inT ((kf10.I _ h0 (by decide)).trans ekx7) (kp8.2.1 kc12)), (q_atC kp1.1 (kf10.I _ h0 (by decide)) (kf10.I _ h0 (by decide))), (q_tkC kp1.2.1 (kf10.I _ h0 (by decide)) (kf10.I _ h0 (by decide)) (kf10.I _ h0 (by decide))), ((q_ff.rf.tr kp1.2.2 (by decide)).fr kf10 h0 (by decide))⟩) dX12_takes0_32
set_option maxHeartbeats 4000000 in
set_option maxRecDepth 100000 in
theorem c_X12_readsCloud (l : Launch) (G : q_G) (σ : q_S) (a0 : Nat) (h0 : q_T G a0 = 40) (i1 : Int32) (w1 : q_V 0 3 i1) (hat : q_at σ a0) (htk : q_tk σ a0) : Met l yX12_readsCloud (Cond.code yX12_readsCloud cX12_readsCloud 5 (some .boolean) :: wsL_law) (q_Rm 5) (q_Pre G σ [.ref a0, .int i1]) (q_Qi G [40, 48, 49, 50, 51] σ (fun r σ1 => q_V 0 1 r ∧ q_at σ1 a0 ∧ q_tk σ1 a0 ∧ q_ff σ σ1 a0 [12, 13, 14, 15, 16, 17])) 0 0 (q_N G) := by
  refine q_ofW (ts := [40, 48, 49, 50, 51]) (by decide) (Nat.le_of_ble_eq_true rfl) ?_
  intro p e s m args below meth c hE hr hlocks hW ls hl
  have hE : q_E G p s m args c cX12_readsCloud 5 RX12 := hE
  have hx := hE.1.1
  have hb := hE.1.2.1
  have hl : lv_has ls 5 [(0, .ref a0), (1, .int i1)] := hl
  have lp67a : ∀ (n67a : Nat) (ks3 : q_S) (H : Heap) (locs : List Loc) (kx1 : Int32) (vkx1 : q_V 0 5 kx1) (kx2 : Int32) (vkx2 : q_V 0 6 kx2) (kx4 : Int32) (vkx4 : q_V 0 5 kx4) (ke5 : q_I ks3 a0 17 = kx4) (hW : q_Wd G [40, 48, 49, 50, 51] σ s.heap ks3 H locs) (hff67a : q_ff σ ks3 a0 [12, 13, 14, 15, 16, 17]) (hat67a : q_at ks3 a0) (htk67a : q_tk ks3 a0) (ls : Array Slot) (hl : lv_has ls 5 [(0, .ref a0), (2, .int kx1), (4, .int kx2)]), (6 - kx2.toInt).toNat < n67a → W p l e (q_Rm 5) s m args below meth c H locs 0 0 (MQ below (q_Qi G [40, 48, 49, 50, 51] σ (fun r σ1 => q_V 0 1 r ∧ q_at σ1 a0 ∧ q_tk σ1 a0 ∧ q_ff σ σ1 a0 [12, 13, 14, 15, 16, 17])) args s 0 0 (q_N G)) (F0 m 67 ls []) := by
    intro n67a
    induction n67a with
    | zero => intro _ _ _ _ _ _ _ _ _ _ _ _ _ _ _ _; exact fun h => absurd h (Nat.not_lt_zero _)
    | succ n67a ih67a =>
      intro ks3 H locs kx1 vkx1 kx2 vkx2 kx4 vkx4 ke5 hW hff67a hat67a htk67a ls hl hm67a
      refine lv_iload hx hb dX12_readsCloud_67 (lv_at hl 2 rfl) ?_
      refine lv_bipush (v := 6) hx hb dX12_readsCloud_69 (by decide) ?_
      refine lv_icmp_ge (tgt := 93) hx hb dX12_readsCloud_71 (by decide) (fun kc6 => ?_) (fun kc6 => ?_)
      · have kv7 : q_V 6 6 kx2 := (q_le2 (q_c (k := 6) (x := 6) (by decide)) vkx2 kc6).w (by decide) (by decide)
        refine lv_aload_n hx hb dX12_readsCloud_93 rfl (lv_at hl 0 rfl) ?_
        refine lv_dup hx hb dX12_readsCloud_94 rfl ?_
        refine q_geti hE hW h0 rfl q_k12 17 (by decide) rfl (hE.l wl_359) dX12_readsCloud_95 (fun kx8 ekx8 vkx8 => ?_)
        obtain rfl : kx4 = kx8 := ke5.symm.trans ekx8
        refine lv_iconst (v := 1) hx hb dX12_readsCloud_98 (by decide) ?_
        refine lv_iadd hx hb dX12_readsCloud_99 ?_
        refine lv_topi (fun kx9 ekx9 => ?_)
        have vkx9 : q_V 1 6 kx9 := by rw [ekx9]; exact (q_add vkx4 (q_c (k := 1) (x := 1) (by decide)) (by decide) (by decide)).w (by decide) (by decide)
        have ikx9 : kx9.toInt = kx4.toInt + 1 := q_incT ekx9 vkx4 (by decide) (by decide) (by decide)
        refine q_puti hE hW h0 rfl q_k12 tyX12 tyX12_ok 17 (by decide) rfl (hE.l wl_359) rfl rfl rfl (vkx9.w (by decide) (by decide)) (by decide) dX12_readsCloud_100 (fun H locs ks10 kp11 hW => ?_)
        refine lv_iconst (v := 1) hx hb dX12_readsCloud_103 (by decide) ?_
        exact q_retz hE hr hlocks hW (Or.inr rfl) (⟨((q_c (k := 1) (x := 1) (by decide)).w (by decide) (by decide)), (q_atC hat67a (kp11.2.1 _ _ (Or.inr (by decide))) (kp11.2.1 _ _ (Or.inr (by decide)))), (q_tkC htk67a (kp11.2.1 _ _ (Or.inr (by decide))) (kp11.2.1 _ _ (Or.inr (by decide))) (kp11.2.1 _ _ (Or.inr (by decide)))), (hff67a.wI kp11 (by decide))⟩) dX12_readsCloud_104
      · have kv12 : q_V 0 5 kx2 := (q_lt1 vkx2 (q_c (k := 6) (x := 6) (by decide)) (Int32.not_le.mp kc6)).w (by decide) (by decide)
        refine lv_aload_n hx hb dX12_readsCloud_74 rfl (lv_at hl 0 rfl) ?_
        refine q_getr hE hW h0 rfl q_k12 21 (by decide) rfl (hE.l wl_140) dX12_readsCloud_75 (fun kb13 ekb13 hkb13a hkb13b => ?_)
        have hkb13 : q_T G kb13 = 51 := q_tag hkb13a hkb13b
        refine lv_bipush (v := 6) hx hb dX12_readsCloud_78 (by decide) ?_
        refine lv_iload_n hx hb dX12_readsCloud_80 rfl (lv_at hl 1 rfl) ?_
        refine lv_imul hx hb dX12_readsCloud_81 ?_
        refine lv_topi (fun kx14 ekx14 => ?_)
        have vkx14 : q_V 0 30 kx14 := by rw [ekx14]; exact (q_mul (k := 6) (by decide) vkx1 (by decide) (by decide) (by decide)).w (by decide) (by decide)
        refine lv_iload hx hb dX12_readsCloud_82 (lv_at hl 2 rfl) ?_
        refine lv_iadd hx hb dX12_readsCloud_84 ?_
        refine lv_topi (fun kx15 ekx15 => ?_)
        have vkx15 : q_V 0 35 kx15 := by rw [ekx15]; exact (q_add vkx14 kv12 (by decide) (by decide)).w (by decide) (by decide)
        refine lv_iconst (v := 0) hx hb dX12_readsCloud_85 (by decide) ?_
        refine q_iast hE hW hkb13 rfl (q_in vkx15 (by decide) (by decide)) trivial (by decide) dX12_readsCloud_86 (fun H locs ks16 kp17 hW => ?_)
        obtain ⟨kx18, ekx18⟩ : ∃ y : Int32, y = kx2 + 1 := ⟨_, rfl⟩
        have vkx18 : q_V 1 6 kx18 := by rw [ekx18]; exact (q_add kv12 (q_c (k := 1) (x := 1) (by decide)) (by decide) (by decide)).w (by decide) (by decide)
        have ikx18 : kx18.toInt = kx2.toInt + 1 := q_incT ekx18 kv12 (by decide) (by decide) (by decide)
        refine lv_iinc (v := kx18) (lv' := [(4, .int kx18), (0, .ref a0), (2, .int kx1)]) hx hb dX12_readsCloud_87 hl (k := 2) rfl (by rw [ekx18]; rfl) (by decide) rfl (fun ls hl => ?_)
        refine lv_goto (tgt := 67) hx hb dX12_readsCloud_90 (by decide) ?_
        exact ih67a _ _ _ kx1 vkx1 kx18 (vkx18.w (by decide) (by decide)) kx4 vkx4 ((kp17.2.2.2.1 _ _).trans ke5) hW (hff67a.wA kp17) (q_atC hat67a (kp17.2.2.2.1 _ _) (kp17.2.2.2.1 _ _)) (q_tkC htk67a (kp17.2.2.2.1 _ _) (kp17.2.2.2.1 _ _) (kp17.2.2.2.1 _ _)) ls (lv_sub hl [1, 2, 0] rfl) (Nat.lt_of_lt_of_le (q_up (ikx18) (show q_V 1 6 kx18 from vkx18).2) (Nat.le_of_lt_succ hm67a))
  refine lv_aload_n hx hb dX12_readsCloud_0 rfl (lv_at hl 0 rfl) ?_
  refine q_geti hE hW h0 rfl q_k12 17 (by decide) rfl (hE.l wl_359) dX12_readsCloud_1 (fun kx19 ekx19 vkx19 => ?_)
  refine lv_istore_n (lv' := [(2, .int kx19), (0, .ref a0), (1, .int i1)]) hx hb dX12_readsCloud_4 rfl hl (by decide) rfl (fun ls hl => ?_)
  refine lv_iload_n hx hb dX12_readsCloud_5 rfl (lv_at hl 0 rfl) ?_
  refine lv_bipush (v := 6) hx hb dX12_readsCloud_6 (by decide) ?_
  refine lv_icmp_eq (tgt := 21) hx hb dX12_readsCloud_8 (by decide) (fun kc20 => ?_) (fun kc20 => ?_)
  · have kv21 : q_V 6 6 kx19 := q_eq1 vkx19 (q_c (k := 6) (x := 6) (by decide)) kc20 (by decide) (by decide)
    refine lv_iconst (v := 0) hx hb dX12_readsCloud_21 (by decide) ?_
    exact q_retz hE hr hlocks hW (Or.inl rfl) (⟨((q_c (k := 0) (x := 0) (by decide)).w (by decide) (by decide)), hat, htk, q_ff.rf⟩) dX12_readsCloud_22
  · have kv22 : q_V 0 5 kx19 := q_ne2 vkx19 (q_c (k := 6) (x := 6) (by decide)) kc20 (by decide)
    refine lv_aload_n hx hb dX12_readsCloud_11 rfl (lv_at hl 1 rfl) ?_
    refine lv_iconst (v := 1) hx hb dX12_readsCloud_12 (by decide) ?_
    refine lv_bipush (v := 99) hx hb dX12_readsCloud_13 (by decide) ?_
    refine q_goi hW (q_runV (As := [.int 1, .int 99]) (rest := []) hE hW (c_X12_takes0 l G σ a0 h0 1 99 hat) kw_X12_166 (q_recv hE hW h0 rfl q_k12) rfl hl.1 rfl (Nat.le_of_ble_eq_true rfl) dX12_readsCloud_15 ⟨by decide, by decide⟩ ⟨by decide, by decide⟩) (by decide) (fun kx26 ks24 H locs kp23 kf25 hW => ?_)
    refine lv_if_ne (tgt := 23) hx hb dX12_readsCloud_18 (by decide) (fun kc27 => ?_) (fun kc27 => ?_)
    · obtain ⟨kx28, ekx28⟩ : ∃ q_x, q_I ks24 a0 16 = q_x := ⟨_, rfl⟩
      have vkx28 : q_V 1 99 kx28 := by rw [← ekx28]; exact ⟨Int.le_trans ((q_c (k := 1) (x := 1) (by decide))).1 (kp23.2.1 kc27).1, Int.le_trans (kp23.2.1 kc27).2 ((q_c (k := 99) (x := 99) (by decide))).2⟩
      have kv29 : q_V 1 1 kx26 := q_ne1 kp23.1 (q_c (k := 0) (x := 0) (by decide)) kc27 (by decide)
      refine lv_aload_n hx hb dX12_readsCloud_23 rfl (lv_at hl 1 rfl) ?_
      refine q_geti hE hW h0 rfl q_k12 16 (by decide) rfl (hE.l wl_370) dX12_readsCloud_24 (fun kx30 ekx30 vkx30 => ?_)
      obtain rfl : kx28 = kx30 := ekx28.symm.trans ekx30
      refine lv_istore_n (lv' := [(3, .int kx28), (2, .int kx19), (0, .ref a0), (1, .int i1)]) hx hb dX12_readsCloud_27 rfl hl (by decide) rfl (fun ls hl => ?_)
      refine lv_aload_n hx hb dX12_readsCloud_28 rfl (lv_at hl 2 rfl) ?_
      refine lv_iconst (v := 0) hx hb dX12_readsCloud_29 (by decide) ?_
      refine lv_bipush (v := 99) hx hb dX12_readsCloud_30 (by decide) ?_
      refine q_goi hW (q_runV (As := [.int 0, .int 99]) (rest := []) hE hW (c_X12_takes0 l G ks24 a0 h0 0 99 kp23.2.2.1) kw_X12_166 (q_recv hE hW h0 rfl q_k12) rfl hl.1 rfl (Nat.le_of_ble_eq_true rfl) dX12_readsCloud_32 ⟨by decide, by decide⟩ ⟨by decide, by decide⟩) (by decide) (fun kx34 ks32 H locs kp31 kf33 hW => ?_)
      refine lv_if_ne (tgt := 40) hx hb dX12_readsCloud_35 (by decide) (fun kc35 => ?_) (fun kc35 => ?_)
      · obtain ⟨kx36, ekx36⟩ : ∃ q_x, q_I ks32 a0 16 = q_x := ⟨_, rfl⟩
        have vkx36 : q_V 0 99 kx36 := by rw [← ekx36]; exact ⟨Int.le_trans ((q_c (k := 0) (x := 0) (by decide))).1 (kp31.2.1 kc35).1, Int.le_trans (kp31.2.1 kc35).2 ((q_c (k := 99) (x := 99) (by decide))).2⟩
        have kv37 : q_V 1 1 kx34 := q_ne1 kp31.1 (q_c (k := 0) (x := 0) (by decide)) kc35 (by decide)
        refine lv_aload_n hx hb dX12_readsCloud_40 rfl (lv_at hl 2 rfl) ?_
        refine q_getr hE hW h0 rfl q_k12 18 (by decide) rfl (hE.l wl_137) dX12_readsCloud_41 (fun kb38 ekb38 hkb38a hkb38b => ?_)
        have hkb38 : q_T G kb38 = 48 := q_tag hkb38a hkb38b
        refine lv_iload_n hx hb dX12_readsCloud_44 rfl (lv_at hl 1 rfl) ?_
        refine lv_iload_n hx hb dX12_readsCloud_45 rfl (lv_at hl 3 rfl) ?_
        refine q_iast hE hW hkb38 rfl (q_in kv22 (by decide) (by decide)) trivial (by decide) dX12_readsCloud_46 (fun H locs ks39 kp40 hW => ?_)
        refine lv_aload_n hx hb dX12_readsCloud_47 rfl (lv_at hl 2 rfl) ?_
        refine q_getr hE hW h0 rfl q_k12 19 (by decide) rfl (hE.l wl_138) dX12_readsCloud_48 (fun kb41 ekb41 hkb41a hkb41b => ?_)
        have hkb41 : q_T G kb41 = 49 := q_tag hkb41a hkb41b
        refine lv_iload_n hx hb dX12_readsCloud_51 rfl (lv_at hl 1 rfl) ?_
        refine lv_iload_n hx hb dX12_readsCloud_52 rfl (lv_at hl 0 rfl) ?_
        refine q_iast hE hW hkb41 rfl (q_in kv22 (by decide) (by decide)) trivial (by decide) dX12_readsCloud_53 (fun H locs ks42 kp43 hW => ?_)
        refine lv_aload_n hx hb dX12_readsCloud_54 rfl (lv_at hl 2 rfl) ?_
        refine q_getr hE hW h0 rfl q_k12 20 (by decide) rfl (hE.l wl_139) dX12_readsCloud_55 (fun kb44 ekb44 hkb44a hkb44b => ?_)
        have hkb44 : q_T G kb44 = 50 := q_tag hkb44a hkb44b
        refine lv_iload_n hx hb dX12_readsCloud_58 rfl (lv_at hl 1 rfl) ?_
        refine lv_aload_n hx hb dX12_readsCloud_59 rfl (lv_at hl 2 rfl) ?_
        refine q_geti hE hW h0 rfl q_k12 16 (by decide) rfl (hE.l wl_370) dX12_readsCloud_60 (fun kx45 ekx45 vkx45 => ?_)
        obtain rfl : kx36 = kx45 := (((kp43.2.2.2.1 _ _).trans (kp40.2.2.2.1 _ _)).trans ekx36).symm.trans ekx45
        refine q_iast hE hW hkb44 rfl (q_in kv22 (by decide) (by decide)) trivial (by decide) dX12_readsCloud_63 (fun H locs ks46 kp47 hW => ?_)
        refine lv_iconst (v := 0) hx hb dX12_readsCloud_64 (by decide) ?_
        refine lv_istore (lv' := [(4, .int 0), (3, .int kx28), (2, .int kx19), (0, .ref a0), (1, .int i1)]) hx hb dX12_readsCloud_65 hl (by decide) rfl (fun ls hl => ?_)
        exact lp67a _ _ _ _ kx19 kv22 0 ((q_c (k := 0) (x := 0) (by decide)).w (by decide) (by decide)) kx19 kv22 ((((((kp47.2.2.2.1 _ _).trans (kp43.2.2.2.1 _ _)).trans (kp40.2.2.2.1 _ _)).trans (kp31.2.2.2.2.1 17 (by decide))).trans (kp23.2.2.2.2.1 17 (by decide))).trans ekx19) hW (((((q_ff.rf.tr kp23.2.2.2.2 (by decide)).tr kp31.2.2.2.2 (by decide)).wA kp40).wA kp43).wA kp47) (q_atC kp31.2.2.1 (((kp47.2.2.2.1 _ _).trans (kp43.2.2.2.1 _ _)).trans (kp40.2.2.2.1 _ _)) (((kp47.2.2.2.1 _ _).trans (kp43.2.2.2.1 _ _)).trans (kp40.2.2.2.1 _ _))) (q_tkC kp31.2.2.2.1 (((kp47.2.2.2.1 _ _).trans (kp43.2.2.2.1 _ _)).trans (kp40.2.2.2.1 _ _)) (((kp47.2.2.2.1 _ _).trans (kp43.2.2.2.1 _ _)).trans (kp40.2.2.2.1 _ _)) (((kp47.2.2.2.1 _ _).trans (kp43.2.2.2.1 _ _)).trans (kp40.2.2.2.1 _ _))) ls (lv_sub hl [3, 2, 0] rfl) (Nat.lt_succ_self _)
      · have kv48 : q_V 0 0 kx34 := q_eq1 kp31.1 (q_c (k := 0) (x := 0) (by decide)) kc35 (by decide) (by decide)
        refine lv_iconst (v := 0) hx hb dX12_readsCloud_38 (by decide) ?_
        exact q_retz hE hr hlocks hW (Or.inl rfl) (⟨((q_c (k := 0) (x := 0) (by decide)).w (by decide) (by decide)), kp31.2.2.1, kp31.2.2.2.1, ((q_ff.rf.tr kp23.2.2.2.2 (by decide)).tr kp31.2.2.2.2 (by decide))⟩) dX12_readsCloud_39
    · have kv49 : q_V 0 0 kx26 := q_eq1 kp23.1 (q_c (k := 0) (x := 0) (by decide)) kc27 (by decide) (by decide)
      refine lv_iconst (v := 0) hx hb dX12_readsCloud_21 (by decide) ?_
      exact q_retz hE hr hlocks hW (Or.inl rfl) (⟨((q_c (k := 0) (x := 0) (by decide)).w (by decide) (by decide)), kp23.2.2.1, kp23.2.2.2.1, (q_ff.rf.tr kp23.2.2.2.2 (by decide))⟩) dX12_readsCloud_22
set_option maxHeartbeats 4000000 in
set_option maxRecDepth 100000 in
theorem c_X12_readsStain (l : Launch) (G : q_G) (σ : q_S) (a0 : Nat) (h0 : q_T G a0 = 40) (hat : q_at σ a0) (htk : q_tk σ a0) : Met l yX12_readsStain (Cond.code yX12_readsStain cX12_readsStain 4 (some .boolean) :: wsL_law) (q_Rm 5) (q_Pre G σ [.ref a0]) (q_Qi G [40, 51] σ (fun r σ1 => q_V 0 1 r ∧ q_at σ1 a0 ∧ q_tk σ1 a0 ∧ q_ff σ σ1 a0 [12, 13, 14, 15, 16])) 0 0 (q_N G) := by
  refine q_ofW (ts := [40, 51]) (by decide) (Nat.le_of_ble_eq_true rfl) ?_
  intro p e s m args below meth c hE hr hlocks hW ls hl
  have hE : q_E G p s m args c cX12_readsStain 4 RX12 := hE
  have hx := hE.1.1
  have hb := hE.1.2.1
  have hl : lv_has ls 4 [(0, .ref a0)] := hl
  have jn67a : ∀ (ks5 : q_S) (H : Heap) (locs : List Loc) (kx1 : Int32) (vkx1 : q_V 0 1 kx1) (kb2 : Nat) (hkb2 : q_T G kb2 = 51) (kx3 : Int32) (vkx3 : q_V 0 35 kx3) (kx4 : Int32) (vkx4 : q_V 0 9 kx4) (hW : q_Wd G [40, 51] σ s.heap ks5 H locs) (hff67a : q_ff σ ks5 a0 [12, 13, 14, 15, 16]) (hat67a : q_at ks5 a0) (htk67a : q_tk ks5 a0) (ls : Array Slot) (hl : lv_has ls 4 [(3, .int kx1)]), W p l e (q_Rm 5) s m args below meth c H locs 0 0 (MQ below (q_Qi G [40, 51] σ (fun r σ1 => q_V 0 1 r ∧ q_at σ1 a0 ∧ q_tk σ1 a0 ∧ q_ff σ σ1 a0 [12, 13, 14, 15, 16])) args s 0 0 (q_N G)) (F0 m 67 ls [.int kx4, .int kx3, .ref kb2]) := by
    intro ks5 H locs kx1 vkx1 kb2 hkb2 kx3 vkx3 kx4 vkx4 hW hff67a hat67a htk67a ls hl
    refine q_iast hE hW hkb2 rfl (q_in vkx3 (by decide) (by decide)) trivial (by decide) dX12_readsStain_67 (fun H locs ks6 kp7 hW => ?_)
    refine lv_iload_n hx hb dX12_readsStain_68 rfl (lv_at hl 0 rfl) ?_
    exact q_retz hE hr hlocks hW (q_01 vkx1) (⟨vkx1, (q_atC hat67a (kp7.2.2.2.1 _ _) (kp7.2.2.2.1 _ _)), (q_tkC htk67a (kp7.2.2.2.1 _ _) (kp7.2.2.2.1 _ _) (kp7.2.2.2.1 _ _)), (hff67a.wA kp7)⟩) dX12_readsStain_69
  refine lv_aload_n hx hb dX12_readsStain_0 rfl (lv_at hl 0 rfl) ?_
  refine lv_iconst (v := 0) hx hb dX12_readsStain_1 (by decide) ?_
  refine lv_aload_n hx hb dX12_readsStain_2 rfl (lv_at hl 0 rfl) ?_
  refine q_geti hE hW h0 rfl q_k12 17 (by decide) rfl (hE.l wl_359) dX12_readsStain_3 (fun kx8 ekx8 vkx8 => ?_)
  refine lv_iconst (v := 1) hx hb dX12_readsStain_6 (by decide) ?_
  refine lv_isub hx hb dX12_readsStain_7 ?_
  refine lv_topi (fun kx9 ekx9 => ?_)
  have vkx9 : q_V (-1) 5 kx9 := by rw [ekx9]; exact (q_sub vkx8 (q_c (k := 1) (x := 1) (by decide)) (by decide) (by decide)).w (by decide) (by decide)
  refine q_goi hW (q_runV (As := [.int 0, .int kx9]) (rest := []) hE hW (c_X12_takes0 l G σ a0 h0 0 kx9 hat) kw_X12_166 (q_recv hE hW h0 rfl q_k12) rfl hl.1 rfl (Nat.le_of_ble_eq_true rfl) dX12_readsStain_8 ⟨by decide, by decide⟩ ⟨by decide, by decide⟩) (by decide) (fun kx13 ks11 H locs kp10 kf12 hW => ?_)
  refine lv_if_ne (tgt := 16) hx hb dX12_readsStain_11 (by decide) (fun kc14 => ?_) (fun kc14 => ?_)
  · obtain ⟨kx15, ekx15⟩ : ∃ q_x, q_I ks11 a0 16 = q_x := ⟨_, rfl⟩
    have vkx15 : q_V 0 5 kx15 := by rw [← ekx15]; exact ⟨Int.le_trans ((q_c (k := 0) (x := 0) (by decide))).1 (kp10.2.1 kc14).1, Int.le_trans (kp10.2.1 kc14).2 (vkx9).2⟩
    have kv16 : q_V 1 1 kx13 := q_ne1 kp10.1 (q_c (k := 0) (x := 0) (by decide)) kc14 (by decide)
    refine lv_aload_n hx hb dX12_readsStain_16 rfl (lv_at hl 0 rfl) ?_
    refine q_geti hE hW h0 rfl q_k12 16 (by decide) rfl (hE.l wl_370) dX12_readsStain_17 (fun kx17 ekx17 vkx17 => ?_)
    obtain rfl : kx15 = kx17 := ekx15.symm.trans ekx17
    refine lv_istore_n (lv' := [(1, .int kx15), (0, .ref a0)]) hx hb dX12_readsStain_20 rfl hl (by decide) rfl (fun ls hl => ?_)
    refine lv_aload_n hx hb dX12_readsStain_21 rfl (lv_at hl 1 rfl) ?_
    refine lv_iconst (v := 0) hx hb dX12_readsStain_22 (by decide) ?_
    refine lv_iconst (v := 5) hx hb dX12_readsStain_23 (by decide) ?_
    refine q_goi hW (q_runV (As := [.int 0, .int 5]) (rest := []) hE hW (c_X12_takes0 l G ks11 a0 h0 0 5 kp10.2.2.1) kw_X12_166 (q_recv hE hW h0 rfl q_k12) rfl hl.1 rfl (Nat.le_of_ble_eq_true rfl) dX12_readsStain_24 ⟨by decide, by decide⟩ ⟨by decide, by decide⟩) (by decide) (fun kx21 ks19 H locs kp18 kf20 hW => ?_)
    refine lv_if_ne (tgt := 32) hx hb dX12_readsStain_27 (by decide) (fun kc22 => ?_) (fun kc22 => ?_)
    · obtain ⟨kx23, ekx23⟩ : ∃ q_x, q_I ks19 a0 16 = q_x := ⟨_, rfl⟩
      have vkx23 : q_V 0 5 kx23 := by rw [← ekx23]; exact ⟨Int.le_trans ((q_c (k := 0) (x := 0) (by decide))).1 (kp18.2.1 kc22).1, Int.le_trans (kp18.2.1 kc22).2 ((q_c (k := 5) (x := 5) (by decide))).2⟩
      have kv24 : q_V 1 1 kx21 := q_ne1 kp18.1 (q_c (k := 0) (x := 0) (by decide)) kc22 (by decide)
      refine lv_aload_n hx hb dX12_readsStain_32 rfl (lv_at hl 1 rfl) ?_
      refine q_geti hE hW h0 rfl q_k12 16 (by decide) rfl (hE.l wl_370) dX12_readsStain_33 (fun kx25 ekx25 vkx25 => ?_)
      obtain rfl : kx23 = kx25 := ekx23.symm.trans ekx25
      refine lv_istore_n (lv' := [(2, .int kx23), (1, .int kx15), (0, .ref a0)]) hx hb dX12_readsStain_36 rfl hl (by decide) rfl (fun ls hl => ?_)
      refine lv_aload_n hx hb dX12_readsStain_37 rfl (lv_at hl 2 rfl) ?_
      refine lv_iconst (v := 0) hx hb dX12_readsStain_38 (by decide) ?_
      refine lv_bipush (v := 9) hx hb dX12_readsStain_39 (by decide) ?_
      refine q_goi hW (q_runV (As := [.int 0, .int 9]) (rest := []) hE hW (c_X12_takes0 l G ks19 a0 h0 0 9 kp18.2.2.1) kw_X12_166 (q_recv hE hW h0 rfl q_k12) rfl hl.1 rfl (Nat.le_of_ble_eq_true rfl) dX12_readsStain_41 ⟨by decide, by decide⟩ ⟨by decide, by decide⟩) (by decide) (fun kx29 ks27 H locs kp26 kf28 hW => ?_)
      refine lv_istore_n (lv' := [(3, .int kx29), (2, .int kx23), (1, .int kx15), (0, .ref a0)]) hx hb dX12_readsStain_44 rfl hl (by decide) rfl (fun ls hl => ?_)
      refine lv_aload_n hx hb dX12_readsStain_45 rfl (lv_at hl 3 rfl) ?_
      refine q_getr hE hW h0 rfl q_k12 21 (by decide) rfl (hE.l wl_140) dX12_readsStain_46 (fun kb30 ekb30 hkb30a hkb30b => ?_)
      have hkb30 : q_T G kb30 = 51 := q_tag hkb30a hkb30b
      refine lv_bipush (v := 6) hx hb dX12_readsStain_49 (by decide) ?_
      refine lv_iload_n hx hb dX12_readsStain_51 rfl (lv_at hl 2 rfl) ?_
      refine lv_imul hx hb dX12_readsStain_52 ?_
      refine lv_topi (fun kx31 ekx31 => ?_)
      have vkx31 : q_V 0 30 kx31 := by rw [ekx31]; exact (q_mul (k := 6) (by decide) vkx15 (by decide) (by decide) (by decide)).w (by decide) (by decide)
      refine lv_iload_n hx hb dX12_readsStain_53 rfl (lv_at hl 1 rfl) ?_
      refine lv_iadd hx hb dX12_readsStain_54 ?_
      refine lv_topi (fun kx32 ekx32 => ?_)
      have vkx32 : q_V 0 35 kx32 := by rw [ekx32]; exact (q_add vkx31 vkx23 (by decide) (by decide)).w (by decide) (by decide)
      refine lv_iload_n hx hb dX12_readsStain_55 rfl (lv_at hl 0 rfl) ?_
      refine lv_if_eq (tgt := 66) hx hb dX12_readsStain_56 (by decide) (fun kc33 => ?_) (fun kc33 => ?_)
      · have kv34 : q_V 0 0 kx29 := q_eq1 kp26.1 (q_c (k := 0) (x := 0) (by decide)) kc33 (by decide) (by decide)
        refine lv_iconst (v := 0) hx hb dX12_readsStain_66 (by decide) ?_
        exact jn67a _ _ _ kx29 (kv34.w (by decide) (by decide)) kb30 hkb30 kx32 vkx32 0 ((q_c (k := 0) (x := 0) (by decide)).w (by decide) (by decide)) hW (((q_ff.rf.tr kp10.2.2.2.2 (by decide)).tr kp18.2.2.2.2 (by decide)).tr kp26.2.2.2.2 (by decide)) kp26.2.2.1 kp26.2.2.2.1 ls (lv_sub hl [0] rfl)
      · obtain ⟨kx35, ekx35⟩ : ∃ q_x, q_I ks27 a0 16 = q_x := ⟨_, rfl⟩
        have vkx35 : q_V 0 9 kx35 := by rw [← ekx35]; exact ⟨Int.le_trans ((q_c (k := 0) (x := 0) (by decide))).1 (kp26.2.1 kc33).1, Int.le_trans (kp26.2.1 kc33).2 ((q_c (k := 9) (x := 9) (by decide))).2⟩
        have kv36 : q_V 1 1 kx29 := q_ne1 kp26.1 (q_c (k := 0) (x := 0) (by decide)) kc33 (by decide)
        refine lv_aload_n hx hb dX12_readsStain_59 rfl (lv_at hl 3 rfl) ?_
        refine q_geti hE hW h0 rfl q_k12 16 (by decide) rfl (hE.l wl_370) dX12_readsStain_60 (fun kx37 ekx37 vkx37 => ?_)
        obtain rfl : kx35 = kx37 := ekx35.symm.trans ekx37
        refine lv_goto (tgt := 67) hx hb dX12_readsStain_63 (by decide) ?_
        exact jn67a _ _ _ kx29 (kv36.w (by decide) (by decide)) kb30 hkb30 kx32 vkx32 kx35 vkx35 hW (((q_ff.rf.tr kp10.2.2.2.2 (by decide)).tr kp18.2.2.2.2 (by decide)).tr kp26.2.2.2.2 (by decide)) kp26.2.2.1 kp26.2.2.2.1 ls (lv_sub hl [0] rfl)
    · have kv38 : q_V 0 0 kx21 := q_eq1 kp18.1 (q_c (k := 0) (x := 0) (by decide)) kc22 (by decide) (by decide)
      refine lv_iconst (v := 0) hx hb dX12_readsStain_30 (by decide) ?_
      exact q_retz hE hr hlocks hW (Or.inl rfl) (⟨((q_c (k := 0) (x := 0) (by decide)).w (by decide) (by decide)), kp18.2.2.1, kp18.2.2.2.1, ((q_ff.rf.tr kp10.2.2.2.2 (by decide)).tr kp18.2.2.2.2 (by decide))⟩) dX12_readsStain_31
  · have kv39 : q_V 0 0 kx13 := q_eq1 kp10.1 (q_c (k := 0) (x := 0) (by decide)) kc14 (by decide) (by decide)
    refine lv_iconst (v := 0) hx hb dX12_readsStain_14 (by decide) ?_
    exact q_retz hE hr hlocks hW (Or.inl rfl) (⟨((q_c (k := 0) (x := 0) (by decide)).w (by decide) (by decide)), kp10.2.2.1, kp10.2.2.2.1, (q_ff.rf.tr kp10.2.2.2.2 (by decide))⟩) dX12_readsStain_15
set_option maxHeartbeats 4000000 in
set_option maxRecDepth 100000 in
theorem c_X12_readsWasher (l : Launch) (G : q_G) (σ : q_S) (a0 : Nat) (h0 : q_T G a0 = 40) (hat : q_at σ a0) (htk : q_tk σ a0) : Met l yX12_readsWasher (Cond.code yX12_readsWasher cX12_readsWasher 1 (some .boolean) :: wsL_law) (q_Rm 5) (q_Pre G σ [.ref a0]) (q_Qi G [40, 52] σ (fun r σ1 => q_V 0 1 r ∧ q_at σ1 a0 ∧ q_tk σ1 a0 ∧ q_ff σ σ1 a0 [12, 13, 14, 15, 16, 22])) 0 0 (q_N G) := by
  refine q_ofW (ts := [40, 52]) (by decide) (Nat.le_of_ble_eq_true rfl) ?_
  intro p e s m args below meth c hE hr hlocks hW ls hl
  have hE : q_E G p s m args c cX12_readsWasher 1 RX12 := hE
  have hx := hE.1.1
  have hb := hE.1.2.1
  have hl : lv_has ls 1 [(0, .ref a0)] := hl
  refine lv_aload_n hx hb dX12_readsWasher_0 rfl (lv_at hl 0 rfl) ?_
  refine q_geti hE hW h0 rfl q_k12 22 (by decide) rfl (hE.l wl_361) dX12_readsWasher_1 (fun kx1 ekx1 vkx1 => ?_)
  refine lv_iconst (v := 3) hx hb dX12_readsWasher_4 (by decide) ?_
  refine lv_icmp_eq (tgt := 17) hx hb dX12_readsWasher_5 (by decide) (fun kc2 => ?_) (fun kc2 => ?_)
  · have kv3 : q_V 3 3 kx1 := q_eq1 vkx1 (q_c (k := 3) (x := 3) (by decide)) kc2 (by decide) (by decide)
    refine lv_iconst (v := 0) hx hb dX12_readsWasher_17 (by decide) ?_
    exact q_retz hE hr hlocks hW (Or.inl rfl) (⟨((q_c (k := 0) (x := 0) (by decide)).w (by decide) (by decide)), hat, htk, q_ff.rf⟩) dX12_readsWasher_18
  · have kv4 : q_V 0 2 kx1 := q_ne2 vkx1 (q_c (k := 3) (x := 3) (by decide)) kc2 (by decide)
    refine lv_aload_n hx hb dX12_readsWasher_8 rfl (lv_at hl 0 rfl) ?_
    refine lv_iconst (v := 1) hx hb dX12_readsWasher_9 (by decide) ?_
    refine lv_iconst (v := 3) hx hb dX12_readsWasher_10 (by decide) ?_
    refine q_goi hW (q_runV (As := [.int 1, .int 3]) (rest := []) hE hW (c_X12_takes0 l G σ a0 h0 1 3 hat) kw_X12_166 (q_recv hE hW h0 rfl q_k12) rfl hl.1 rfl (Nat.le_of_ble_eq_true rfl) dX12_readsWasher_11 ⟨by decide, by decide⟩ ⟨by decide, by decide⟩) (by decide) (fun kx8 ks6 H locs kp5 kf7 hW => ?_)
    refine lv_if_ne (tgt := 19) hx hb dX12_readsWasher_14 (by decide) (fun kc9 => ?_) (fun kc9 => ?_)
    · obtain ⟨kx10, ekx10⟩ : ∃ q_x, q_I ks6 a0 16 = q_x := ⟨_, rfl⟩
      have vkx10 : q_V 1 3 kx10 := by rw [← ekx10]; exact ⟨Int.le_trans ((q_c (k := 1) (x := 1) (by decide))).1 (kp5.2.1 kc9).1, Int.le_trans (kp5.2.1 kc9).2 ((q_c (k := 3) (x := 3) (by decide))).2⟩
      have kv11 : q_V 1 1 kx8 := q_ne1 kp5.1 (q_c (k := 0) (x := 0) (by decide)) kc9 (by decide)
      refine lv_aload_n hx hb dX12_readsWasher_19 rfl (lv_at hl 0 rfl) ?_
      refine q_getr hE hW h0 rfl q_k12 23 (by decide) rfl (hE.l wl_141) dX12_readsWasher_20 (fun kb12 ekb12 hkb12a hkb12b => ?_)
      have hkb12 : q_T G kb12 = 52 := q_tag hkb12a hkb12b
      refine lv_aload_n hx hb dX12_readsWasher_23 rfl (lv_at hl 0 rfl) ?_
      refine q_geti hE hW h0 rfl q_k12 22 (by decide) rfl (hE.l wl_361) dX12_readsWasher_24 (fun kx13 ekx13 vkx13 => ?_)
      obtain rfl : kx1 = kx13 := ((kp5.2.2.2.2.1 22 (by decide)).trans ekx1).symm.trans ekx13
      refine lv_aload_n hx hb dX12_readsWasher_27 rfl (lv_at hl 0 rfl) ?_
      refine q_geti hE hW h0 rfl q_k12 16 (by decide) rfl (hE.l wl_370) dX12_readsWasher_28 (fun kx14 ekx14 vkx14 => ?_)
      obtain rfl : kx10 = kx14 := ekx10.symm.trans ekx14
      refine q_iast hE hW hkb12 rfl (q_in kv4 (by decide) (by decide)) trivial (by decide) dX12_readsWasher_31 (fun H locs ks15 kp16 hW => ?_)
      refine lv_aload_n hx hb dX12_readsWasher_32 rfl (lv_at hl 0 rfl) ?_
      refine lv_dup hx hb dX12_readsWasher_33 rfl ?_
      refine q_geti hE hW h0 rfl q_k12 22 (by decide) rfl (hE.l wl_361) dX12_readsWasher_34 (fun kx17 ekx17 vkx17 => ?_)
      obtain rfl : kx1 = kx17 := (((kp16.2.2.2.1 _ _).trans (kp5.2.2.2.2.1 22 (by decide))).trans ekx1).symm.trans ekx17
      refine lv_iconst (v := 1) hx hb dX12_readsWasher_37 (by decide) ?_
      refine lv_iadd hx hb dX12_readsWasher_38 ?_
      refine lv_topi (fun kx18 ekx18 => ?_)
      have vkx18 : q_V 1 3 kx18 := by rw [ekx18]; exact (q_add kv4 (q_c (k := 1) (x := 1) (by decide)) (by decide) (by decide)).w (by decide) (by decide)
      have ikx18 : kx18.toInt = kx1.toInt + 1 := q_incT ekx18 kv4 (by decide) (by decide) (by decide)
      refine q_puti hE hW h0 rfl q_k12 tyX12 tyX12_ok 22 (by decide) rfl (hE.l wl_361) rfl rfl rfl (vkx18.w (by decide) (by decide)) (by decide) dX12_readsWasher_39 (fun H locs ks19 kp20 hW => ?_)
      refine lv_iconst (v := 1) hx hb dX12_readsWasher_42 (by decide) ?_
      exact q_retz hE hr hlocks hW (Or.inr rfl) (⟨((q_c (k := 1) (x := 1) (by decide)).w (by decide) (by decide)), (q_atC kp5.2.2.1 ((kp20.2.1 _ _ (Or.inr (by decide))).trans (kp16.2.2.2.1 _ _)) ((kp20.2.1 _ _ (Or.inr (by decide))).trans (kp16.2.2.2.1 _ _))), (q_tkC kp5.2.2.2.1 ((kp20.2.1 _ _ (Or.inr (by decide))).trans (kp16.2.2.2.1 _ _)) ((kp20.2.1 _ _ (Or.inr (by decide))).trans (kp16.2.2.2.1 _ _)) ((kp20.2.1 _ _ (Or.inr (by decide))).trans (kp16.2.2.2.1 _ _))), (((q_ff.rf.tr kp5.2.2.2.2 (by decide)).wA kp16).wI kp20 (by decide))⟩) dX12_readsWasher_43
    · have kv21 : q_V 0 0 kx8 := q_eq1 kp5.1 (q_c (k := 0) (x := 0) (by decide)) kc9 (by decide) (by decide)
      refine lv_iconst (v := 0) hx hb dX12_readsWasher_17 (by decide) ?_
      exact q_retz hE hr hlocks hW (Or.inl rfl) (⟨((q_c (k := 0) (x := 0) (by decide)).w (by decide) (by decide)), kp5.2.2.1, kp5.2.2.2.1, (q_ff.rf.tr kp5.2.2.2.2 (by decide))⟩) dX12_readsWasher_18
set_option maxHeartbeats 4000000 in
set_option maxRecDepth 100000 in
theorem c_X12_readsSoap (l : Launch) (G : q_G) (σ : q_S) (a0 : Nat) (h0 : q_T G a0 = 40) (hat : q_at σ a0) (htk : q_tk σ a0) : Met l yX12_readsSoap (Cond.code yX12_readsSoap cX12_readsSoap 2 (some .boolean) :: wsL_law) (q_Rm 5) (q_Pre G σ [.ref a0]) (q_Qi G [40] σ (fun r σ1 => q_V 0 1 r ∧ q_at σ1 a0 ∧ q_tk σ1 a0 ∧ q_ff σ σ1 a0 [12, 13, 14, 15, 16, 24])) 0 0 (q_N G) := by
  refine q_ofW (ts := [40]) (by decide) (Nat.le_of_ble_eq_true rfl) ?_
  intro p e s m args below meth c hE hr hlocks hW ls hl
  have hE : q_E G p s m args c cX12_readsSoap 2 RX12 := hE
  have hx := hE.1.1
  have hb := hE.1.2.1
  have hl : lv_has ls 2 [(0, .ref a0)] := hl
  refine lv_aload_n hx hb dX12_readsSoap_0 rfl (lv_at hl 0 rfl) ?_
  refine lv_iconst (v := 0) hx hb dX12_readsSoap_1 (by decide) ?_
  refine lv_bipush (v := 99) hx hb dX12_readsSoap_2 (by decide) ?_
  refine q_goi hW (q_runV (As := [.int 0, .int 99]) (rest := []) hE hW (c_X12_takes0 l G σ a0 h0 0 99 hat) kw_X12_166 (q_recv hE hW h0 rfl q_k12) rfl hl.1 rfl (Nat.le_of_ble_eq_true rfl) dX12_readsSoap_4 ⟨by decide, by decide⟩ ⟨by decide, by decide⟩) (by decide) (fun kx4 ks2 H locs kp1 kf3 hW => ?_)
  refine lv_istore_n (lv' := [(1, .int kx4), (0, .ref a0)]) hx hb dX12_readsSoap_7 rfl hl (by decide) rfl (fun ls hl => ?_)
  refine lv_aload_n hx hb dX12_readsSoap_8 rfl (lv_at hl 1 rfl) ?_
  refine lv_aload_n hx hb dX12_readsSoap_9 rfl (lv_at hl 1 rfl) ?_
  refine q_geti hE hW h0 rfl q_k12 16 (by decide) rfl (hE.l wl_370) dX12_readsSoap_10 (fun kx5 ekx5 vkx5 => ?_)
  refine q_puti hE hW h0 rfl q_k12 tyX12 tyX12_ok 24 (by decide) rfl (hE.l wl_363) rfl rfl rfl (q_all kx5) (by decide) dX12_readsSoap_13 (fun H locs ks6 kp7 hW => ?_)
  refine lv_iload_n hx hb dX12_readsSoap_16 rfl (lv_at hl 0 rfl) ?_
  exact q_retz hE hr hlocks hW (q_01 kp1.1) (⟨kp1.1, (q_atC kp1.2.2.1 (kp7.2.1 _ _ (Or.inr (by decide))) (kp7.2.1 _ _ (Or.inr (by decide)))), (q_tkC kp1.2.2.2.1 (kp7.2.1 _ _ (Or.inr (by decide))) (kp7.2.1 _ _ (Or.inr (by decide))) (kp7.2.1 _ _ (Or.inr (by decide)))), ((q_ff.rf.tr kp1.2.2.2.2 (by decide)).wI kp7 (by decide))⟩) dX12_readsSoap_17
set_option maxHeartbeats 4000000 in
set_option maxRecDepth 100000 in
theorem c_X12_readsEye (l : Launch) (G : q_G) (σ : q_S) (a0 : Nat) (h0 : q_T G a0 = 40) (hat : q_at σ a0) (htk : q_tk σ a0) : Met l yX12_readsEye (Cond.code yX12_readsEye cX12_readsEye 2 (some .boolean) :: wsL_law) (q_Rm 5) (q_Pre G σ [.ref a0]) (q_Qi G [40] σ (fun r σ1 => q_V 0 1 r ∧ q_at σ1 a0 ∧ q_tk σ1 a0 ∧ q_ff σ σ1 a0 [12, 13, 14, 15, 16, 25])) 0 0 (q_N G) := by
  refine q_ofW (ts := [40]) (by decide) (Nat.le_of_ble_eq_true rfl) ?_
  intro p e s m args below meth c hE hr hlocks hW ls hl
  have hE : q_E G p s m args c cX12_readsEye 2 RX12 := hE
  have hx := hE.1.1
  have hb := hE.1.2.1
  have hl : lv_has ls 2 [(0, .ref a0)] := hl
  refine lv_aload_n hx hb dX12_readsEye_0 rfl (lv_at hl 0 rfl) ?_
  refine lv_iconst (v := 1) hx hb dX12_readsEye_1 (by decide) ?_
  refine lv_bipush (v := 99) hx hb dX12_readsEye_2 (by decide) ?_
  refine q_goi hW (q_runV (As := [.int 1, .int 99]) (rest := []) hE hW (c_X12_takes0 l G σ a0 h0 1 99 hat) kw_X12_166 (q_recv hE hW h0 rfl q_k12) rfl hl.1 rfl (Nat.le_of_ble_eq_true rfl) dX12_readsEye_4 ⟨by decide, by decide⟩ ⟨by decide, by decide⟩) (by decide) (fun kx4 ks2 H locs kp1 kf3 hW => ?_)
  refine lv_istore_n (lv' := [(1, .int kx4), (0, .ref a0)]) hx hb dX12_readsEye_7 rfl hl (by decide) rfl (fun ls hl => ?_)
  refine lv_aload_n hx hb dX12_readsEye_8 rfl (lv_at hl 1 rfl) ?_
  refine lv_aload_n hx hb dX12_readsEye_9 rfl (lv_at hl 1 rfl) ?_
  refine q_geti hE hW h0 rfl q_k12 16 (by decide) rfl (hE.l wl_370) dX12_readsEye_10 (fun kx5 ekx5 vkx5 => ?_)
  refine q_puti hE hW h0 rfl q_k12 tyX12 tyX12_ok 25 (by decide) rfl (hE.l wl_364) rfl rfl rfl (q_all kx5) (by decide) dX12_readsEye_13 (fun H locs ks6 kp7 hW => ?_)
  refine lv_iload_n hx hb dX12_readsEye_16 rfl (lv_at hl 0 rfl) ?_
  exact q_retz hE hr hlocks hW (q_01 kp1.1) (⟨kp1.1, (q_atC kp1.2.2.1 (kp7.2.1 _ _ (Or.inr (by decide))) (kp7.2.1 _ _ (Or.inr (by decide)))), (q_tkC kp1.2.2.2.1 (kp7.2.1 _ _ (Or.inr (by decide))) (kp7.2.1 _ _ (Or.inr (by decide))) (kp7.2.1 _ _ (Or.inr (by decide)))), ((q_ff.rf.tr kp1.2.2.2.2 (by decide)).wI kp7 (by decide))⟩) dX12_readsEye_17
set_option maxHeartbeats 4000000 in
set_option maxRecDepth 100000 in
theorem c_X12_readsSummer (l : Launch) (G : q_G) (σ : q_S) (a0 : Nat) (h0 : q_T G a0 = 40) (hat : q_at σ a0) (htk : q_tk σ a0) : Met l yX12_readsSummer (Cond.code yX12_readsSummer cX12_readsSummer 1 (some .boolean) :: wsL_law) (q_Rm 1) (q_Pre G σ [.ref a0]) (q_Qi G [40] σ (fun r σ1 => q_V 0 1 r ∧ q_at σ1 a0 ∧ q_tk σ1 a0 ∧ q_ff σ σ1 a0 [17, 22, 24, 25])) 0 0 (q_N G) := by
  refine q_ofW (ts := [40]) (by decide) (Nat.le_of_ble_eq_true rfl) ?_
  intro p e s m args below meth c hE hr hlocks hW ls hl
  have hE : q_E G p s m args c cX12_readsSummer 1 RX12 := hE
  have hx := hE.1.1
  have hb := hE.1.2.1
  have hl : lv_has ls 1 [(0, .ref a0)] := hl
  refine lv_aload_n hx hb dX12_readsSummer_0 rfl (lv_at hl 0 rfl) ?_
  refine lv_iconst (v := 0) hx hb dX12_readsSummer_1 (by decide) ?_
  refine q_puti hE hW h0 rfl q_k12 tyX12 tyX12_ok 17 (by decide) rfl (hE.l wl_359) rfl rfl rfl ((q_c (k := 0) (x := 0) (by decide)).w (by decide) (by decide)) (by decide) dX12_readsSummer_2 (fun H locs ks1 kp2 hW => ?_)
  refine lv_aload_n hx hb dX12_readsSummer_5 rfl (lv_at hl 0 rfl) ?_
  refine lv_iconst (v := 0) hx hb dX12_readsSummer_6 (by decide) ?_
  refine q_puti hE hW h0 rfl q_k12 tyX12 tyX12_ok 22 (by decide) rfl (hE.l wl_361) rfl rfl rfl ((q_c (k := 0) (x := 0) (by decide)).w (by decide) (by decide)) (by decide) dX12_readsSummer_7 (fun H locs ks3 kp4 hW => ?_)
  refine lv_aload_n hx hb dX12_readsSummer_10 rfl (lv_at hl 0 rfl) ?_
  refine lv_iconst (v := 0) hx hb dX12_readsSummer_11 (by decide) ?_
  refine q_puti hE hW h0 rfl q_k12 tyX12 tyX12_ok 24 (by decide) rfl (hE.l wl_363) rfl rfl rfl ((q_c (k := 0) (x := 0) (by decide)).w (by decide) (by decide)) (by decide) dX12_readsSummer_12 (fun H locs ks5 kp6 hW => ?_)
  refine lv_aload_n hx hb dX12_readsSummer_15 rfl (lv_at hl 0 rfl) ?_
  refine lv_bipush (v := 8) hx hb dX12_readsSummer_16 (by decide) ?_
  refine q_puti hE hW h0 rfl q_k12 tyX12 tyX12_ok 25 (by decide) rfl (hE.l wl_364) rfl rfl rfl ((q_c (k := 8) (x := 8) (by decide)).w (by decide) (by decide)) (by decide) dX12_readsSummer_18 (fun H locs ks7 kp8 hW => ?_)
  refine lv_iconst (v := 1) hx hb dX12_readsSummer_21 (by decide) ?_
  exact q_retz hE hr hlocks hW (Or.inr rfl) (⟨((q_c (k := 1) (x := 1) (by decide)).w (by decide) (by decide)), (q_atC hat ((((kp8.2.1 _ _ (Or.inr (by decide))).trans (kp6.2.1 _ _ (Or.inr (by decide)))).trans (kp4.2.1 _ _ (Or.inr (by decide)))).trans (kp2.2.1 _ _ (Or.inr (by decide)))) ((((kp8.2.1 _ _ (Or.inr (by decide))).trans (kp6.2.1 _ _ (Or.inr (by decide)))).trans (kp4.2.1 _ _ (Or.inr (by decide)))).trans (kp2.2.1 _ _ (Or.inr (by decide))))), (q_tkC htk ((((kp8.2.1 _ _ (Or.inr (by decide))).trans (kp6.2.1 _ _ (Or.inr (by decide)))).trans (kp4.2.1 _ _ (Or.inr (by decide)))).trans (kp2.2.1 _ _ (Or.inr (by decide)))) ((((kp8.2.1 _ _ (Or.inr (by decide))).trans (kp6.2.1 _ _ (Or.inr (by decide)))).trans (kp4.2.1 _ _ (Or.inr (by decide)))).trans (kp2.2.1 _ _ (Or.inr (by decide)))) ((((kp8.2.1 _ _ (Or.inr (by decide))).trans (kp6.2.1 _ _ (Or.inr (by decide)))).trans (kp4.2.1 _ _ (Or.inr (by decide)))).trans (kp2.2.1 _ _ (Or.inr (by decide))))), ((((q_ff.rf.wI kp2 (by decide)).wI kp4 (by decide)).wI kp6 (by decide)).wI kp8 (by decide))⟩) dX12_readsSummer_22
set_option maxHeartbeats 4000000 in
set_option maxRecDepth 100000 in
theorem c_X12_readsClause (l : Launch) (G : q_G) (σ : q_S) (a0 : Nat) (h0 : q_T G a0 = 40) (hat : q_at σ a0) (htk : q_tk σ a0) : Met l yX12_readsClause (Cond.code yX12_readsClause cX12_readsClause 3 (some .boolean) :: wsL_law) (q_Rm 6) (q_Pre G σ [.ref a0]) (q_Qi G [40, 48, 49, 50, 51, 52] σ (fun r σ1 => q_V 0 1 r ∧ q_at σ1 a0 ∧ q_tk σ1 a0 ∧ q_ff σ σ1 a0 [12, 13, 14, 15, 16, 17, 22, 24, 25])) 0 0 (q_N G) := by
  refine q_ofW (ts := [40, 48, 49, 50, 51, 52]) (by decide) (Nat.le_of_ble_eq_true rfl) ?_
  intro p e s m args below meth c hE hr hlocks hW ls hl
  have hE : q_E G p s m args c cX12_readsClause 3 RX12 := hE
  have hx := hE.1.1
  have hb := hE.1.2.1
  have hl : lv_has ls 3 [(0, .ref a0)] := hl
  refine lv_aload_n hx hb dX12_readsClause_0 rfl (lv_at hl 0 rfl) ?_
  refine q_gol hW (q_runV (As := []) (rest := []) hE hW (c_X12_wordNow l G σ a0 h0 htk) kw_X12_170 (q_recv hE hW h0 rfl q_k12) rfl hl.1 rfl (Nat.le_of_ble_eq_true rfl) dX12_readsClause_1 ⟨by decide, by decide⟩ ⟨by decide, by decide⟩) (by decide) (fun ky4 ks2 H locs kp1 kf3 hW => ?_)
  refine lv_lstore_n (lv' := [(1, .long ky4), (0, .ref a0)]) hx hb dX12_readsClause_4 rfl hl (by decide) rfl (fun ls hl => ?_)
  refine lv_lload_n hx hb dX12_readsClause_5 rfl (lv_at hl 0 rfl) ?_
  refine lv_ldc2 (v := 12387713) hx hb hE.1.2.2.2.1 (hE.w wl_387) dX12_readsClause_6 ?_
  refine W.lcmp hx hb dX12_readsClause_9 ?_
  refine lv_topi (fun kx5 ekx5 => ?_)
  refine lv_if_eq (tgt := 37) hx hb dX12_readsClause_10 (by decide) (fun kc6 => ?_) (fun kc6 => ?_)
  · have kv8 : q_V 0 0 kx5 := q_eq1 (q_all kx5) (q_c (k := 0) (x := 0) (by decide)) kc6 (by decide) (by decide)
    refine lv_aload_n hx hb dX12_readsClause_37 rfl (lv_at hl 1 rfl) ?_
    refine lv_lload_n hx hb dX12_readsClause_38 rfl (lv_at hl 0 rfl) ?_
    refine lv_ldc2 (v := 12387713) hx hb hE.1.2.2.2.1 (hE.w wl_387) dX12_readsClause_39 ?_
    refine W.lcmp hx hb dX12_readsClause_42 ?_
    refine lv_topi (fun kx9 ekx9 => ?_)
    refine lv_if_ne (tgt := 50) hx hb dX12_readsClause_43 (by decide) (fun kc10 => ?_) (fun kc10 => ?_)
    · refine lv_lload_n hx hb dX12_readsClause_50 rfl (lv_at hl 0 rfl) ?_
      refine lv_ldc2 (v := 7874639928) hx hb hE.1.2.2.2.1 (hE.w wl_388) dX12_readsClause_51 ?_
      refine W.lcmp hx hb dX12_readsClause_54 ?_
      refine lv_topi (fun kx12 ekx12 => ?_)
      refine lv_if_ne (tgt := 62) hx hb dX12_readsClause_55 (by decide) (fun kc13 => ?_) (fun kc13 => ?_)
      · refine lv_lload_n hx hb dX12_readsClause_62 rfl (lv_at hl 0 rfl) ?_
        refine lv_ldc2 (v := 4786) hx hb hE.1.2.2.2.1 (hE.w wl_389) dX12_readsClause_63 ?_
        refine W.lcmp hx hb dX12_readsClause_66 ?_
        refine lv_topi (fun kx15 ekx15 => ?_)
        refine lv_if_ne (tgt := 74) hx hb dX12_readsClause_67 (by decide) (fun kc16 => ?_) (fun kc16 => ?_)
        · refine lv_iconst (v := 3) hx hb dX12_readsClause_74 (by decide) ?_
          refine q_goi hW (q_runV (As := [.int 3]) (rest := []) hE hW (c_X12_readsCloud l G ks2 a0 h0 3 ((q_c (k := 3) (x := 3) (by decide)).w (by decide) (by decide)) (q_atC hat (kf3.I _ h0 (by decide)) (kf3.I _ h0 (by decide))) (q_tkC htk (kf3.I _ h0 (by decide)) (kf3.I _ h0 (by decide)) (kf3.I _ h0 (by decide)))) kw_X12_182 (q_recv hE hW h0 rfl q_k12) rfl hl.1 rfl (Nat.le_of_ble_eq_true rfl) dX12_readsClause_75 ⟨by decide, by decide⟩ ⟨by decide, by decide⟩) (by decide) (fun kx21 ks19 H locs kp18 kf20 hW => ?_)
          exact q_retz hE hr hlocks hW (q_01 kp18.1) (⟨kp18.1, kp18.2.1, kp18.2.2.1, ((q_ff.rf.fr kf3 h0 (by decide)).tr kp18.2.2.2 (by decide))⟩) dX12_readsClause_78
        · have kv23 : q_V 0 0 kx15 := q_eq1 (q_all kx15) (q_c (k := 0) (x := 0) (by decide)) kc16 (by decide) (by decide)
          refine lv_iconst (v := 2) hx hb dX12_readsClause_70 (by decide) ?_
          refine lv_goto (tgt := 75) hx hb dX12_readsClause_71 (by decide) ?_
          refine q_goi hW (q_runV (As := [.int 2]) (rest := []) hE hW (c_X12_readsCloud l G ks2 a0 h0 2 ((q_c (k := 2) (x := 2) (by decide)).w (by decide) (by decide)) (q_atC hat (kf3.I _ h0 (by decide)) (kf3.I _ h0 (by decide))) (q_tkC htk (kf3.I _ h0 (by decide)) (kf3.I _ h0 (by decide)) (kf3.I _ h0 (by decide)))) kw_X12_182 (q_recv hE hW h0 rfl q_k12) rfl hl.1 rfl (Nat.le_of_ble_eq_true rfl) dX12_readsClause_75 ⟨by decide, by decide⟩ ⟨by decide, by decide⟩) (by decide) (fun kx27 ks25 H locs kp24 kf26 hW => ?_)
          exact q_retz hE hr hlocks hW (q_01 kp24.1) (⟨kp24.1, kp24.2.1, kp24.2.2.1, ((q_ff.rf.fr kf3 h0 (by decide)).tr kp24.2.2.2 (by decide))⟩) dX12_readsClause_78
      · have kv29 : q_V 0 0 kx12 := q_eq1 (q_all kx12) (q_c (k := 0) (x := 0) (by decide)) kc13 (by decide) (by decide)
        refine lv_iconst (v := 1) hx hb dX12_readsClause_58 (by decide) ?_
        refine lv_goto (tgt := 75) hx hb dX12_readsClause_59 (by decide) ?_
        refine q_goi hW (q_runV (As := [.int 1]) (rest := []) hE hW (c_X12_readsCloud l G ks2 a0 h0 1 ((q_c (k := 1) (x := 1) (by decide)).w (by decide) (by decide)) (q_atC hat (kf3.I _ h0 (by decide)) (kf3.I _ h0 (by decide))) (q_tkC htk (kf3.I _ h0 (by decide)) (kf3.I _ h0 (by decide)) (kf3.I _ h0 (by decide)))) kw_X12_182 (q_recv hE hW h0 rfl q_k12) rfl hl.1 rfl (Nat.le_of_ble_eq_true rfl) dX12_readsClause_75 ⟨by decide, by decide⟩ ⟨by decide, by decide⟩) (by decide) (fun kx33 ks31 H locs kp30 kf32 hW => ?_)
        exact q_retz hE hr hlocks hW (q_01 kp30.1) (⟨kp30.1, kp30.2.1, kp30.2.2.1, ((q_ff.rf.fr kf3 h0 (by decide)).tr kp30.2.2.2 (by decide))⟩) dX12_readsClause_78
    · have kv35 : q_V 0 0 kx9 := q_eq1 (q_all kx9) (q_c (k := 0) (x := 0) (by decide)) kc10 (by decide) (by decide)
      refine lv_iconst (v := 0) hx hb dX12_readsClause_46 (by decide) ?_
      refine lv_goto (tgt := 75) hx hb dX12_readsClause_47 (by decide) ?_
      refine q_goi hW (q_runV (As := [.int 0]) (rest := []) hE hW (c_X12_readsCloud l G ks2 a0 h0 0 ((q_c (k := 0) (x := 0) (by decide)).w (by decide) (by decide)) (q_atC hat (kf3.I _ h0 (by decide)) (kf3.I _ h0 (by decide))) (q_tkC htk (kf3.I _ h0 (by decide)) (kf3.I _ h0 (by decide)) (kf3.I _ h0 (by decide)))) kw_X12_182 (q_recv hE hW h0 rfl q_k12) rfl hl.1 rfl (Nat.le_of_ble_eq_true rfl) dX12_readsClause_75 ⟨by decide, by decide⟩ ⟨by decide, by decide⟩) (by decide) (fun kx39 ks37 H locs kp36 kf38 hW => ?_)
      exact q_retz hE hr hlocks hW (q_01 kp36.1) (⟨kp36.1, kp36.2.1, kp36.2.2.1, ((q_ff.rf.fr kf3 h0 (by decide)).tr kp36.2.2.2 (by decide))⟩) dX12_readsClause_78
  · refine lv_lload_n hx hb dX12_readsClause_13 rfl (lv_at hl 0 rfl) ?_
    refine lv_ldc2 (v := 7874639928) hx hb hE.1.2.2.2.1 (hE.w wl_388) dX12_readsClause_14 ?_
    refine W.lcmp hx hb dX12_readsClause_17 ?_
    refine lv_topi (fun kx41 ekx41 => ?_)
    refine lv_if_eq (tgt := 37) hx hb dX12_readsClause_18 (by decide) (fun kc42 => ?_) (fun kc42 => ?_)
    · have kv44 : q_V 0 0 kx41 := q_eq1 (q_all kx41) (q_c (k := 0) (x := 0) (by decide)) kc42 (by decide) (by decide)
      refine lv_aload_n hx hb dX12_readsClause_37 rfl (lv_at hl 1 rfl) ?_
      refine lv_lload_n hx hb dX12_readsClause_38 rfl (lv_at hl 0 rfl) ?_
      refine lv_ldc2 (v := 12387713) hx hb hE.1.2.2.2.1 (hE.w wl_387) dX12_readsClause_39 ?_
      refine W.lcmp hx hb dX12_readsClause_42 ?_
      refine lv_topi (fun kx45 ekx45 => ?_)
      refine lv_if_ne (tgt := 50) hx hb dX12_readsClause_43 (by decide) (fun kc46 => ?_) (fun kc46 => ?_)
      · refine lv_lload_n hx hb dX12_readsClause_50 rfl (lv_at hl 0 rfl) ?_
        refine lv_ldc2 (v := 7874639928) hx hb hE.1.2.2.2.1 (hE.w wl_388) dX12_readsClause_51 ?_
        refine W.lcmp hx hb dX12_readsClause_54 ?_
        refine lv_topi (fun kx48 ekx48 => ?_)
        refine lv_if_ne (tgt := 62) hx hb dX12_readsClause_55 (by decide) (fun kc49 => ?_) (fun kc49 => ?_)
        · refine lv_lload_n hx hb dX12_readsClause_62 rfl (lv_at hl 0 rfl) ?_
          refine lv_ldc2 (v := 4786) hx hb hE.1.2.2.2.1 (hE.w wl_389) dX12_readsClause_63 ?_
          refine W.lcmp hx hb dX12_readsClause_66 ?_
          refine lv_topi (fun kx51 ekx51 => ?_)
          refine lv_if_ne (tgt := 74) hx hb dX12_readsClause_67 (by decide) (fun kc52 => ?_) (fun kc52 => ?_)
          · refine lv_iconst (v := 3) hx hb dX12_readsClause_74 (by decide) ?_
            refine q_goi hW (q_runV (As := [.int 3]) (rest := []) hE hW (c_X12_readsCloud l G ks2 a0 h0 3 ((q_c (k := 3) (x := 3) (by decide)).w (by decide) (by decide)) (q_atC hat (kf3.I _ h0 (by decide)) (kf3.I _ h0 (by decide))) (q_tkC htk (kf3.I _ h0 (by decide)) (kf3.I _ h0 (by decide)) (kf3.I _ h0 (by decide)))) kw_X12_182 (q_recv hE hW h0 rfl q_k12) rfl hl.1 rfl (Nat.le_of_ble_eq_true rfl) dX12_readsClause_75 ⟨by decide, by decide⟩ ⟨by decide, by decide⟩) (by decide) (fun kx57 ks55 H locs kp54 kf56 hW => ?_)
            exact q_retz hE hr hlocks hW (q_01 kp54.1) (⟨kp54.1, kp54.2.1, kp54.2.2.1, ((q_ff.rf.fr kf3 h0 (by decide)).tr kp54.2.2.2 (by decide))⟩) dX12_readsClause_78
          · have kv59 : q_V 0 0 kx51 := q_eq1 (q_all kx51) (q_c (k := 0) (x := 0) (by decide)) kc52 (by decide) (by decide)
            refine lv_iconst (v := 2) hx hb dX12_readsClause_70 (by decide) ?_
            refine lv_goto (tgt := 75) hx hb dX12_readsClause_71 (by decide) ?_
            refine q_goi hW (q_runV (As := [.int 2]) (rest := []) hE hW (c_X12_readsCloud l G ks2 a0 h0 2 ((q_c (k := 2) (x := 2) (by decide)).w (by decide) (by decide)) (q_atC hat (kf3.I _ h0 (by decide)) (kf3.I _ h0 (by decide))) (q_tkC htk (kf3.I _ h0 (by decide)) (kf3.I _ h0 (by decide)) (kf3.I _ h0 (by decide)))) kw_X12_182 (q_recv hE hW h0 rfl q_k12) rfl hl.1 rfl (Nat.le_of_ble_eq_true rfl) dX12_readsClause_75 ⟨by decide, by decide⟩ ⟨by decide, by decide⟩) (by decide) (fun kx63 ks61 H locs kp60 kf62 hW => ?_)
            exact q_retz hE hr hlocks hW (q_01 kp60.1) (⟨kp60.1, kp60.2.1, kp60.2.2.1, ((q_ff.rf.fr kf3 h0 (by decide)).tr kp60.2.2.2 (by decide))⟩) dX12_readsClause_78
        · have kv65 : q_V 0 0 kx48 := q_eq1 (q_all kx48) (q_c (k := 0) (x := 0) (by decide)) kc49 (by decide) (by decide)
          refine lv_iconst (v := 1) hx hb dX12_readsClause_58 (by decide) ?_
          refine lv_goto (tgt := 75) hx hb dX12_readsClause_59 (by decide) ?_
          refine q_goi hW (q_runV (As := [.int 1]) (rest := []) hE hW (c_X12_readsCloud l G ks2 a0 h0 1 ((q_c (k := 1) (x := 1) (by decide)).w (by decide) (by decide)) (q_atC hat (kf3.I _ h0 (by decide)) (kf3.I _ h0 (by decide))) (q_tkC htk (kf3.I _ h0 (by decide)) (kf3.I _ h0 (by decide)) (kf3.I _ h0 (by decide)))) kw_X12_182 (q_recv hE hW h0 rfl q_k12) rfl hl.1 rfl (Nat.le_of_ble_eq_true rfl) dX12_readsClause_75 ⟨by decide, by decide⟩ ⟨by decide, by decide⟩) (by decide) (fun kx69 ks67 H locs kp66 kf68 hW => ?_)
          exact q_retz hE hr hlocks hW (q_01 kp66.1) (⟨kp66.1, kp66.2.1, kp66.2.2.1, ((q_ff.rf.fr kf3 h0 (by decide)).tr kp66.2.2.2 (by decide))⟩) dX12_readsClause_78
      · have kv71 : q_V 0 0 kx45 := q_eq1 (q_all kx45) (q_c (k := 0) (x := 0) (by decide)) kc46 (by decide) (by decide)
        refine lv_iconst (v := 0) hx hb dX12_readsClause_46 (by decide) ?_
        refine lv_goto (tgt := 75) hx hb dX12_readsClause_47 (by decide) ?_
        refine q_goi hW (q_runV (As := [.int 0]) (rest := []) hE hW (c_X12_readsCloud l G ks2 a0 h0 0 ((q_c (k := 0) (x := 0) (by decide)).w (by decide) (by decide)) (q_atC hat (kf3.I _ h0 (by decide)) (kf3.I _ h0 (by decide))) (q_tkC htk (kf3.I _ h0 (by decide)) (kf3.I _ h0 (by decide)) (kf3.I _ h0 (by decide)))) kw_X12_182 (q_recv hE hW h0 rfl q_k12) rfl hl.1 rfl (Nat.le_of_ble_eq_true rfl) dX12_readsClause_75 ⟨by decide, by decide⟩ ⟨by decide, by decide⟩) (by decide) (fun kx75 ks73 H locs kp72 kf74 hW => ?_)
        exact q_retz hE hr hlocks hW (q_01 kp72.1) (⟨kp72.1, kp72.2.1, kp72.2.2.1, ((q_ff.rf.fr kf3 h0 (by decide)).tr kp72.2.2.2 (by decide))⟩) dX12_readsClause_78
    · refine lv_lload_n hx hb dX12_readsClause_21 rfl (lv_at hl 0 rfl) ?_
      refine lv_ldc2 (v := 4786) hx hb hE.1.2.2.2.1 (hE.w wl_389) dX12_readsClause_22 ?_
      refine W.lcmp hx hb dX12_readsClause_25 ?_
      refine lv_topi (fun kx77 ekx77 => ?_)
      refine lv_if_eq (tgt := 37) hx hb dX12_readsClause_26 (by decide) (fun kc78 => ?_) (fun kc78 => ?_)
      · have kv80 : q_V 0 0 kx77 := q_eq1 (q_all kx77) (q_c (k := 0) (x := 0) (by decide)) kc78 (by decide) (by decide)
        refine lv_aload_n hx hb dX12_readsClause_37 rfl (lv_at hl 1 rfl) ?_
        refine lv_lload_n hx hb dX12_readsClause_38 rfl (lv_at hl 0 rfl) ?_
        refine lv_ldc2 (v := 12387713) hx hb hE.1.2.2.2.1 (hE.w wl_387) dX12_readsClause_39 ?_
        refine W.lcmp hx hb dX12_readsClause_42 ?_
        refine lv_topi (fun kx81 ekx81 => ?_)
        refine lv_if_ne (tgt := 50) hx hb dX12_readsClause_43 (by decide) (fun kc82 => ?_) (fun kc82 => ?_)
        · refine lv_lload_n hx hb dX12_readsClause_50 rfl (lv_at hl 0 rfl) ?_
          refine lv_ldc2 (v := 7874639928) hx hb hE.1.2.2.2.1 (hE.w wl_388) dX12_readsClause_51 ?_
          refine W.lcmp hx hb dX12_readsClause_54 ?_
          refine lv_topi (fun kx84 ekx84 => ?_)
          refine lv_if_ne (tgt := 62) hx hb dX12_readsClause_55 (by decide) (fun kc85 => ?_) (fun kc85 => ?_)
          · refine lv_lload_n hx hb dX12_readsClause_62 rfl (lv_at hl 0 rfl) ?_
            refine lv_ldc2 (v := 4786) hx hb hE.1.2.2.2.1 (hE.w wl_389) dX12_readsClause_63 ?_
            refine W.lcmp hx hb dX12_readsClause_66 ?_
            refine lv_topi (fun kx87 ekx87 => ?_)
            refine lv_if_ne (tgt := 74) hx hb dX12_readsClause_67 (by decide) (fun kc88 => ?_) (fun kc88 => ?_)
            · refine lv_iconst (v := 3) hx hb dX12_readsClause_74 (by decide) ?_
              refine q_goi hW (q_runV (As := [.int 3]) (rest := []) hE hW (c_X12_readsCloud l G ks2 a0 h0 3 ((q_c (k := 3) (x := 3) (by decide)).w (by decide) (by decide)) (q_atC hat (kf3.I _ h0 (by decide)) (kf3.I _ h0 (by decide))) (q_tkC htk (kf3.I _ h0 (by decide)) (kf3.I _ h0 (by decide)) (kf3.I _ h0 (by decide)))) kw_X12_182 (q_recv hE hW h0 rfl q_k12) rfl hl.1 rfl (Nat.le_of_ble_eq_true rfl) dX12_readsClause_75 ⟨by decide, by decide⟩ ⟨by decide, by decide⟩) (by decide) (fun kx93 ks91 H locs kp90 kf92 hW => ?_)
              exact q_retz hE hr hlocks hW (q_01 kp90.1) (⟨kp90.1, kp90.2.1, kp90.2.2.1, ((q_ff.rf.fr kf3 h0 (by decide)).tr kp90.2.2.2 (by decide))⟩) dX12_readsClause_78
            · have kv95 : q_V 0 0 kx87 := q_eq1 (q_all kx87) (q_c (k := 0) (x := 0) (by decide)) kc88 (by decide) (by decide)
              refine lv_iconst (v := 2) hx hb dX12_readsClause_70 (by decide) ?_
              refine lv_goto (tgt := 75) hx hb dX12_readsClause_71 (by decide) ?_
              refine q_goi hW (q_runV (As := [.int 2]) (rest := []) hE hW (c_X12_readsCloud l G ks2 a0 h0 2 ((q_c (k := 2) (x := 2) (by decide)).w (by decide) (by decide)) (q_atC hat (kf3.I _ h0 (by decide)) (kf3.I _ h0 (by decide))) (q_tkC htk (kf3.I _ h0 (by decide)) (kf3.I _ h0 (by decide)) (kf3.I _ h0 (by decide)))) kw_X12_182 (q_recv hE hW h0 rfl q_k12) rfl hl.1 rfl (Nat.le_of_ble_eq_true rfl) dX12_readsClause_75 ⟨by decide, by decide⟩ ⟨by decide, by decide⟩) (by decide) (fun kx99 ks97 H locs kp96 kf98 hW => ?_)
              exact q_retz hE hr hlocks hW (q_01 kp96.1) (⟨kp96.1, kp96.2.1, kp96.2.2.1, ((q_ff.rf.fr kf3 h0 (by decide)).tr kp96.2.2.2 (by decide))⟩) dX12_readsClause_78
          · have kv101 : q_V 0 0 kx84 := q_eq1 (q_all kx84) (q_c (k := 0) (x := 0) (by decide)) kc85 (by decide) (by decide)
            refine lv_iconst (v := 1) hx hb dX12_readsClause_58 (by decide) ?_
            refine lv_goto (tgt := 75) hx hb dX12_readsClause_59 (by decide) ?_
            refine q_goi hW (q_runV (As := [.int 1]) (rest := []) hE hW (c_X12_readsCloud l G ks2 a0 h0 1 ((q_c (k := 1) (x := 1) (by decide)).w (by decide) (by decide)) (q_atC hat (kf3.I _ h0 (by decide)) (kf3.I _ h0 (by decide))) (q_tkC htk (kf3.I _ h0 (by decide)) (kf3.I _ h0 (by decide)) (kf3.I _ h0 (by decide)))) kw_X12_182 (q_recv hE hW h0 rfl q_k12) rfl hl.1 rfl (Nat.le_of_ble_eq_true rfl) dX12_readsClause_75 ⟨by decide, by decide⟩ ⟨by decide, by decide⟩) (by decide) (fun kx105 ks103 H locs kp102 kf104 hW => ?_)
            exact q_retz hE hr hlocks hW (q_01 kp102.1) (⟨kp102.1, kp102.2.1, kp102.2.2.1, ((q_ff.rf.fr kf3 h0 (by decide)).tr kp102.2.2.2 (by decide))⟩) dX12_readsClause_78
        · have kv107 : q_V 0 0 kx81 := q_eq1 (q_all kx81) (q_c (k := 0) (x := 0) (by decide)) kc82 (by decide) (by decide)
          refine lv_iconst (v := 0) hx hb dX12_readsClause_46 (by decide) ?_
          refine lv_goto (tgt := 75) hx hb dX12_readsClause_47 (by decide) ?_
          refine q_goi hW (q_runV (As := [.int 0]) (rest := []) hE hW (c_X12_readsCloud l G ks2 a0 h0 0 ((q_c (k := 0) (x := 0) (by decide)).w (by decide) (by decide)) (q_atC hat (kf3.I _ h0 (by decide)) (kf3.I _ h0 (by decide))) (q_tkC htk (kf3.I _ h0 (by decide)) (kf3.I _ h0 (by decide)) (kf3.I _ h0 (by decide)))) kw_X12_182 (q_recv hE hW h0 rfl q_k12) rfl hl.1 rfl (Nat.le_of_ble_eq_true rfl) dX12_readsClause_75 ⟨by decide, by decide⟩ ⟨by decide, by decide⟩) (by decide) (fun kx111 ks109 H locs kp108 kf110 hW => ?_)
          exact q_retz hE hr hlocks hW (q_01 kp108.1) (⟨kp108.1, kp108.2.1, kp108.2.2.1, ((q_ff.rf.fr kf3 h0 (by decide)).tr kp108.2.2.2 (by decide))⟩) dX12_readsClause_78
      · refine lv_lload_n hx hb dX12_readsClause_29 rfl (lv_at hl 0 rfl) ?_
        refine lv_ldc2 (v := 1423850) hx hb hE.1.2.2.2.1 (hE.w wl_390) dX12_readsClause_30 ?_
        refine W.lcmp hx hb dX12_readsClause_33 ?_
        refine lv_topi (fun kx113 ekx113 => ?_)
        refine lv_if_ne (tgt := 79) hx hb dX12_readsClause_34 (by decide) (fun kc114 => ?_) (fun kc114 => ?_)
        · refine lv_lload_n hx hb dX12_readsClause_79 rfl (lv_at hl 0 rfl) ?_
          refine lv_ldc2 (v := 284055003) hx hb hE.1.2.2.2.1 (hE.w wl_391) dX12_readsClause_80 ?_
          refine W.lcmp hx hb dX12_readsClause_83 ?_
          refine lv_topi (fun kx116 ekx116 => ?_)
          refine lv_if_ne (tgt := 92) hx hb dX12_readsClause_84 (by decide) (fun kc117 => ?_) (fun kc117 => ?_)
          · refine lv_lload_n hx hb dX12_readsClause_92 rfl (lv_at hl 0 rfl) ?_
            refine lv_ldc2 (v := 10492025) hx hb hE.1.2.2.2.1 (hE.w wl_392) dX12_readsClause_93 ?_
            refine W.lcmp hx hb dX12_readsClause_96 ?_
            refine lv_topi (fun kx119 ekx119 => ?_)
            refine lv_if_ne (tgt := 105) hx hb dX12_readsClause_97 (by decide) (fun kc120 => ?_) (fun kc120 => ?_)
            · refine lv_lload_n hx hb dX12_readsClause_105 rfl (lv_at hl 0 rfl) ?_
              refine lv_ldc2 (v := 330936264) hx hb hE.1.2.2.2.1 (hE.w wl_393) dX12_readsClause_106 ?_
              refine W.lcmp hx hb dX12_readsClause_109 ?_
              refine lv_topi (fun kx122 ekx122 => ?_)
              refine lv_if_ne (tgt := 118) hx hb dX12_readsClause_110 (by decide) (fun kc123 => ?_) (fun kc123 => ?_)
              · refine lv_lload_n hx hb dX12_readsClause_118 rfl (lv_at hl 0 rfl) ?_
                refine lv_ldc2 (v := 384955) hx hb hE.1.2.2.2.1 (hE.w wl_394) dX12_readsClause_119 ?_
                refine W.lcmp hx hb dX12_readsClause_122 ?_
                refine lv_topi (fun kx125 ekx125 => ?_)
                refine lv_if_ne (tgt := 133) hx hb dX12_readsClause_123 (by decide) (fun kc126 => ?_) (fun kc126 => ?_)
                · refine lv_lload_n hx hb dX12_readsClause_133 rfl (lv_at hl 0 rfl) ?_
                  refine lv_ldc2 (v := 4325) hx hb hE.1.2.2.2.1 (hE.w wl_395) dX12_readsClause_134 ?_
                  refine W.lcmp hx hb dX12_readsClause_137 ?_
                  refine lv_topi (fun kx128 ekx128 => ?_)
                  refine lv_if_ne (tgt := 152) hx hb dX12_readsClause_138 (by decide) (fun kc129 => ?_) (fun kc129 => ?_)
                  · refine lv_iconst (v := 0) hx hb dX12_readsClause_152 (by decide) ?_
                    exact q_retz hE hr hlocks hW (Or.inl rfl) (⟨((q_c (k := 0) (x := 0) (by decide)).w (by decide) (by decide)), (q_atC hat (kf3.I _ h0 (by decide)) (kf3.I _ h0 (by decide))), (q_tkC htk (kf3.I _ h0 (by decide)) (kf3.I _ h0 (by decide)) (kf3.I _ h0 (by decide))), (q_ff.rf.fr kf3 h0 (by decide))⟩) dX12_readsClause_153
                  · have kv132 : q_V 0 0 kx128 := q_eq1 (q_all kx128) (q_c (k := 0) (x := 0) (by decide)) kc129 (by decide) (by decide)
                    refine lv_aload_n hx hb dX12_readsClause_141 rfl (lv_at hl 1 rfl) ?_
                    refine q_goi hW (q_runV (As := []) (rest := []) hE hW (c_X12_readsEye l G ks2 a0 h0 (q_atC hat (kf3.I _ h0 (by decide)) (kf3.I _ h0 (by decide))) (q_tkC htk (kf3.I _ h0 (by decide)) (kf3.I _ h0 (by decide)) (kf3.I _ h0 (by decide)))) kw_X12_208 (q_recv hE hW h0 rfl q_k12) rfl hl.1 rfl (Nat.le_of_ble_eq_true rfl) dX12_readsClause_142 ⟨by decide, by decide⟩ ⟨by decide, by decide⟩) (by decide) (fun kx136 ks134 H locs kp133 kf135 hW => ?_)
                    refine lv_if_eq (tgt := 152) hx hb dX12_readsClause_145 (by decide) (fun kc137 => ?_) (fun kc137 => ?_)
                    · have kv138 : q_V 0 0 kx136 := q_eq1 kp133.1 (q_c (k := 0) (x := 0) (by decide)) kc137 (by decide) (by decide)
                      refine lv_iconst (v := 0) hx hb dX12_readsClause_152 (by decide) ?_
                      exact q_retz hE hr hlocks hW (Or.inl rfl) (⟨((q_c (k := 0) (x := 0) (by decide)).w (by decide) (by decide)), kp133.2.1, kp133.2.2.1, ((q_ff.rf.fr kf3 h0 (by decide)).tr kp133.2.2.2 (by decide))⟩) dX12_readsClause_153
                    · have kv139 : q_V 1 1 kx136 := q_ne1 kp133.1 (q_c (k := 0) (x := 0) (by decide)) kc137 (by decide)
                      refine lv_iconst (v := 1) hx hb dX12_readsClause_148 (by decide) ?_
                      refine lv_goto (tgt := 153) hx hb dX12_readsClause_149 (by decide) ?_
                      exact q_retz hE hr hlocks hW (Or.inr rfl) (⟨((q_c (k := 1) (x := 1) (by decide)).w (by decide) (by decide)), kp133.2.1, kp133.2.2.1, ((q_ff.rf.fr kf3 h0 (by decide)).tr kp133.2.2.2 (by decide))⟩) dX12_readsClause_153
                · have kv141 : q_V 0 0 kx125 := q_eq1 (q_all kx125) (q_c (k := 0) (x := 0) (by decide)) kc126 (by decide) (by decide)
                  refine lv_aload_n hx hb dX12_readsClause_126 rfl (lv_at hl 1 rfl) ?_
                  refine q_goi hW (q_runV (As := []) (rest := []) hE hW (c_X12_readsSoap l G ks2 a0 h0 (q_atC hat (kf3.I _ h0 (by decide)) (kf3.I _ h0 (by decide))) (q_tkC htk (kf3.I _ h0 (by decide)) (kf3.I _ h0 (by decide)) (kf3.I _ h0 (by decide)))) kw_X12_203 (q_recv hE hW h0 rfl q_k12) rfl hl.1 rfl (Nat.le_of_ble_eq_true rfl) dX12_readsClause_127 ⟨by decide, by decide⟩ ⟨by decide, by decide⟩) (by decide) (fun kx145 ks143 H locs kp142 kf144 hW => ?_)
                  refine lv_goto (tgt := 153) hx hb dX12_readsClause_130 (by decide) ?_
                  exact q_retz hE hr hlocks hW (q_01 kp142.1) (⟨kp142.1, kp142.2.1, kp142.2.2.1, ((q_ff.rf.fr kf3 h0 (by decide)).tr kp142.2.2.2 (by decide))⟩) dX12_readsClause_153
              · have kv147 : q_V 0 0 kx122 := q_eq1 (q_all kx122) (q_c (k := 0) (x := 0) (by decide)) kc123 (by decide) (by decide)
                refine lv_aload_n hx hb dX12_readsClause_113 rfl (lv_at hl 1 rfl) ?_
                refine q_goi hW (q_runV (As := []) (rest := []) hE hW (c_X12_readsWasher l G ks2 a0 h0 (q_atC hat (kf3.I _ h0 (by decide)) (kf3.I _ h0 (by decide))) (q_tkC htk (kf3.I _ h0 (by decide)) (kf3.I _ h0 (by decide)) (kf3.I _ h0 (by decide)))) kw_X12_198 (q_recv hE hW h0 rfl q_k12) rfl hl.1 rfl (Nat.le_of_ble_eq_true rfl) dX12_readsClause_114 ⟨by decide, by decide⟩ ⟨by decide, by decide⟩) (by decide) (fun kx151 ks149 H locs kp148 kf150 hW => ?_)
                exact q_retz hE hr hlocks hW (q_01 kp148.1) (⟨kp148.1, kp148.2.1, kp148.2.2.1, ((q_ff.rf.fr kf3 h0 (by decide)).tr kp148.2.2.2 (by decide))⟩) dX12_readsClause_117
            · have kv153 : q_V 0 0 kx119 := q_eq1 (q_all kx119) (q_c (k := 0) (x := 0) (by decide)) kc120 (by decide) (by decide)
              refine lv_aload_n hx hb dX12_readsClause_100 rfl (lv_at hl 1 rfl) ?_
              refine q_goi hW (q_runV (As := []) (rest := []) hE hW (c_X12_readsStain l G ks2 a0 h0 (q_atC hat (kf3.I _ h0 (by decide)) (kf3.I _ h0 (by decide))) (q_tkC htk (kf3.I _ h0 (by decide)) (kf3.I _ h0 (by decide)) (kf3.I _ h0 (by decide)))) kw_X12_193 (q_recv hE hW h0 rfl q_k12) rfl hl.1 rfl (Nat.le_of_ble_eq_true rfl) dX12_readsClause_101 ⟨by decide, by decide⟩ ⟨by decide, by decide⟩) (by decide) (fun kx157 ks155 H locs kp154 kf156 hW => ?_)
              exact q_retz hE hr hlocks hW (q_01 kp154.1) (⟨kp154.1, kp154.2.1, kp154.2.2.1, ((q_ff.rf.fr kf3 h0 (by decide)).tr kp154.2.2.2 (by decide))⟩) dX12_readsClause_104
          · have kv159 : q_V 0 0 kx116 := q_eq1 (q_all kx116) (q_c (k := 0) (x := 0) (by decide)) kc117 (by decide) (by decide)
            refine lv_aload_n hx hb dX12_readsClause_87 rfl (lv_at hl 1 rfl) ?_
            refine q_goi hW (q_runV (As := []) (rest := []) hE hW (c_X12_readsSummer l G ks2 a0 h0 (q_atC hat (kf3.I _ h0 (by decide)) (kf3.I _ h0 (by decide))) (q_tkC htk (kf3.I _ h0 (by decide)) (kf3.I _ h0 (by decide)) (kf3.I _ h0 (by decide)))) kw_X12_187 (q_recv hE hW h0 rfl q_k12) rfl hl.1 rfl (Nat.le_of_ble_eq_true rfl) dX12_readsClause_88 ⟨by decide, by decide⟩ ⟨by decide, by decide⟩) (by decide) (fun kx163 ks161 H locs kp160 kf162 hW => ?_)
            exact q_retz hE hr hlocks hW (q_01 kp160.1) (⟨kp160.1, kp160.2.1, kp160.2.2.1, ((q_ff.rf.fr kf3 h0 (by decide)).tr kp160.2.2.2 (by decide))⟩) dX12_readsClause_91
        · have kv165 : q_V 0 0 kx113 := q_eq1 (q_all kx113) (q_c (k := 0) (x := 0) (by decide)) kc114 (by decide) (by decide)
          refine lv_aload_n hx hb dX12_readsClause_37 rfl (lv_at hl 1 rfl) ?_
          refine lv_lload_n hx hb dX12_readsClause_38 rfl (lv_at hl 0 rfl) ?_
          refine lv_ldc2 (v := 12387713) hx hb hE.1.2.2.2.1 (hE.w wl_387) dX12_readsClause_39 ?_
          refine W.lcmp hx hb dX12_readsClause_42 ?_
          refine lv_topi (fun kx166 ekx166 => ?_)
          refine lv_if_ne (tgt := 50) hx hb dX12_readsClause_43 (by decide) (fun kc167 => ?_) (fun kc167 => ?_)
          · refine lv_lload_n hx hb dX12_readsClause_50 rfl (lv_at hl 0 rfl) ?_
            refine lv_ldc2 (v := 7874639928) hx hb hE.1.2.2.2.1 (hE.w wl_388) dX12_readsClause_51 ?_
            refine W.lcmp hx hb dX12_readsClause_54 ?_
            refine lv_topi (fun kx169 ekx169 => ?_)
            refine lv_if_ne (tgt := 62) hx hb dX12_readsClause_55 (by decide) (fun kc170 => ?_) (fun kc170 => ?_)
            · refine lv_lload_n hx hb dX12_readsClause_62 rfl (lv_at hl 0 rfl) ?_
              refine lv_ldc2 (v := 4786) hx hb hE.1.2.2.2.1 (hE.w wl_389) dX12_readsClause_63 ?_
              refine W.lcmp hx hb dX12_readsClause_66 ?_
              refine lv_topi (fun kx172 ekx172 => ?_)
              refine lv_if_ne (tgt := 74) hx hb dX12_readsClause_67 (by decide) (fun kc173 => ?_) (fun kc173 => ?_)
              · refine lv_iconst (v := 3) hx hb dX12_readsClause_74 (by decide) ?_
                refine q_goi hW (q_runV (As := [.int 3]) (rest := []) hE hW (c_X12_readsCloud l G ks2 a0 h0 3 ((q_c (k := 3) (x := 3) (by decide)).w (by decide) (by decide)) (q_atC hat (kf3.I _ h0 (by decide)) (kf3.I _ h0 (by decide))) (q_tkC htk (kf3.I _ h0 (by decide)) (kf3.I _ h0 (by decide)) (kf3.I _ h0 (by decide)))) kw_X12_182 (q_recv hE hW h0 rfl q_k12) rfl hl.1 rfl (Nat.le_of_ble_eq_true rfl) dX12_readsClause_75 ⟨by decide, by decide⟩ ⟨by decide, by decide⟩) (by decide) (fun kx178 ks176 H locs kp175 kf177 hW => ?_)
                exact q_retz hE hr hlocks hW (q_01 kp175.1) (⟨kp175.1, kp175.2.1, kp175.2.2.1, ((q_ff.rf.fr kf3 h0 (by decide)).tr kp175.2.2.2 (by decide))⟩) dX12_readsClause_78
              · have kv180 : q_V 0 0 kx172 := q_eq1 (q_all kx172) (q_c (k := 0) (x := 0) (by decide)) kc173 (by decide) (by decide)
                refine lv_iconst (v := 2) hx hb dX12_readsClause_70 (by decide) ?_
                refine lv_goto (tgt := 75) hx hb dX12_readsClause_71 (by decide) ?_
                refine q_goi hW (q_runV (As := [.int 2]) (rest := []) hE hW (c_X12_readsCloud l G ks2 a0 h0 2 ((q_c (k := 2) (x := 2) (by decide)).w (by decide) (by decide)) (q_atC hat (kf3.I _ h0 (by decide)) (kf3.I _ h0 (by decide))) (q_tkC htk (kf3.I _ h0 (by decide)) (kf3.I _ h0 (by decide)) (kf3.I _ h0 (by decide)))) kw_X12_182 (q_recv hE hW h0 rfl q_k12) rfl hl.1 rfl (Nat.le_of_ble_eq_true rfl) dX12_readsClause_75 ⟨by decide, by decide⟩ ⟨by decide, by decide⟩) (by decide) (fun kx184 ks182 H locs kp181 kf183 hW => ?_)
                exact q_retz hE hr hlocks hW (q_01 kp181.1) (⟨kp181.1, kp181.2.1, kp181.2.2.1, ((q_ff.rf.fr kf3 h0 (by decide)).tr kp181.2.2.2 (by decide))⟩) dX12_readsClause_78
            · have kv186 : q_V 0 0 kx169 := q_eq1 (q_all kx169) (q_c (k := 0) (x := 0) (by decide)) kc170 (by decide) (by decide)
              refine lv_iconst (v := 1) hx hb dX12_readsClause_58 (by decide) ?_
              refine lv_goto (tgt := 75) hx hb dX12_readsClause_59 (by decide) ?_
              refine q_goi hW (q_runV (As := [.int 1]) (rest := []) hE hW (c_X12_readsCloud l G ks2 a0 h0 1 ((q_c (k := 1) (x := 1) (by decide)).w (by decide) (by decide)) (q_atC hat (kf3.I _ h0 (by decide)) (kf3.I _ h0 (by decide))) (q_tkC htk (kf3.I _ h0 (by decide)) (kf3.I _ h0 (by decide)) (kf3.I _ h0 (by decide)))) kw_X12_182 (q_recv hE hW h0 rfl q_k12) rfl hl.1 rfl (Nat.le_of_ble_eq_true rfl) dX12_readsClause_75 ⟨by decide, by decide⟩ ⟨by decide, by decide⟩) (by decide) (fun kx190 ks188 H locs kp187 kf189 hW => ?_)
              exact q_retz hE hr hlocks hW (q_01 kp187.1) (⟨kp187.1, kp187.2.1, kp187.2.2.1, ((q_ff.rf.fr kf3 h0 (by decide)).tr kp187.2.2.2 (by decide))⟩) dX12_readsClause_78
          · have kv192 : q_V 0 0 kx166 := q_eq1 (q_all kx166) (q_c (k := 0) (x := 0) (by decide)) kc167 (by decide) (by decide)
            refine lv_iconst (v := 0) hx hb dX12_readsClause_46 (by decide) ?_
            refine lv_goto (tgt := 75) hx hb dX12_readsClause_47 (by decide) ?_
            refine q_goi hW (q_runV (As := [.int 0]) (rest := []) hE hW (c_X12_readsCloud l G ks2 a0 h0 0 ((q_c (k := 0) (x := 0) (by decide)).w (by decide) (by decide)) (q_atC hat (kf3.I _ h0 (by decide)) (kf3.I _ h0 (by decide))) (q_tkC htk (kf3.I _ h0 (by decide)) (kf3.I _ h0 (by decide)) (kf3.I _ h0 (by decide)))) kw_X12_182 (q_recv hE hW h0 rfl q_k12) rfl hl.1 rfl (Nat.le_of_ble_eq_true rfl) dX12_readsClause_75 ⟨by decide, by decide⟩ ⟨by decide, by decide⟩) (by decide) (fun kx196 ks194 H locs kp193 kf195 hW => ?_)
            exact q_retz hE hr hlocks hW (q_01 kp193.1) (⟨kp193.1, kp193.2.1, kp193.2.2.1, ((q_ff.rf.fr kf3 h0 (by decide)).tr kp193.2.2.2 (by decide))⟩) dX12_readsClause_78
set_option maxHeartbeats 4000000 in
set_option maxRecDepth 100000 in
theorem c_X12_readAsTold (l : Launch) (G : q_G) (σ : q_S) (a0 : Nat) (h0 : q_T G a0 = 40)  : Met l yX12_readAsTold (Cond.code yX12_readAsTold cX12_readAsTold 2 none :: wsL_law) (q_Rm 1) (q_Pre G σ [.ref a0]) (q_Qv G [40, 48, 49, 50, 51, 52] σ (fun σ1 => q_I σ1 a0 26 = 0 ∧ q_ff σ σ1 a0 [17, 22, 24, 25, 26])) 0 0 (q_N G) := by
  refine q_ofW (ts := [40, 48, 49, 50, 51, 52]) (by decide) (Nat.le_of_ble_eq_true rfl) ?_
  intro p e s m args below meth c hE hr hlocks hW ls hl
  have hE : q_E G p s m args c cX12_readAsTold 2 RX12 := hE
  have hx := hE.1.1
  have hb := hE.1.2.1
  have hl : lv_has ls 2 [(0, .ref a0)] := hl
  have lp115a : ∀ (n115a : Nat) (ks2 : q_S) (H : Heap) (locs : List Loc) (kx1 : Int32) (vkx1 : q_V 0 3 kx1) (kx3 : Int32) (vkx3 : q_V 0 0 kx3) (ke4 : q_I ks2 a0 26 = kx3) (hW : q_Wd G [40, 48, 49, 50, 51, 52] σ s.heap ks2 H locs) (hff115a : q_ff σ ks2 a0 [17, 22, 24, 25, 26]) (ls : Array Slot) (hl : lv_has ls 2 [(0, .ref a0), (1, .int kx1)]), (3 - kx1.toInt).toNat < n115a → W p l e (q_Rm 1) s m args below meth c H locs 0 0 (MQ below (q_Qv G [40, 48, 49, 50, 51, 52] σ (fun σ1 => q_I σ1 a0 26 = 0 ∧ q_ff σ σ1 a0 [17, 22, 24, 25, 26])) args s 0 0 (q_N G)) (F0 m 115 ls []) := by
    intro n115a
    induction n115a with
    | zero => intro _ _ _ _ _ _ _ _ _ _ _ _; exact fun h => absurd h (Nat.not_lt_zero _)
    | succ n115a ih115a =>
      intro ks2 H locs kx1 vkx1 kx3 vkx3 ke4 hW hff115a ls hl hm115a
      refine lv_iload_n hx hb dX12_readAsTold_115 rfl (lv_at hl 1 rfl) ?_
      refine lv_iconst (v := 3) hx hb dX12_readAsTold_116 (by decide) ?_
      refine lv_icmp_ge (tgt := 138) hx hb dX12_readAsTold_117 (by decide) (fun kc5 => ?_) (fun kc5 => ?_)
      · have kv6 : q_V 3 3 kx1 := (q_le2 (q_c (k := 3) (x := 3) (by decide)) vkx1 kc5).w (by decide) (by decide)
        exact q_retv hE hr hlocks hW (⟨(ke4.trans (q_lit vkx3 (by decide))), hff115a⟩) dX12_readAsTold_138
      · have kv7 : q_V 0 2 kx1 := (q_lt1 vkx1 (q_c (k := 3) (x := 3) (by decide)) (Int32.not_le.mp kc5)).w (by decide) (by decide)
        refine lv_aload_n hx hb dX12_readAsTold_120 rfl (lv_at hl 0 rfl) ?_
        refine q_getr hE hW h0 rfl q_k12 23 (by decide) rfl (hE.l wl_141) dX12_readAsTold_121 (fun kb8 ekb8 hkb8a hkb8b => ?_)
        have hkb8 : q_T G kb8 = 52 := q_tag hkb8a hkb8b
        refine lv_iload_n hx hb dX12_readAsTold_124 rfl (lv_at hl 1 rfl) ?_
        refine lv_aload_n hx hb dX12_readAsTold_125 rfl (lv_at hl 0 rfl) ?_
        refine q_getr hE hW h0 rfl q_k12 6 (by decide) rfl (hE.l wl_133) dX12_readAsTold_126 (fun kb9 ekb9 hkb9a hkb9b => ?_)
        have hkb9 : q_T G kb9 = 45 := q_tag hkb9a hkb9b
        refine lv_iload_n hx hb dX12_readAsTold_129 rfl (lv_at hl 1 rfl) ?_
        refine q_iald hE hW hkb9 rfl (q_in kv7 (by decide) (by decide)) dX12_readAsTold_130 (fun kx10 ekx10 gkx10 => ?_)
        refine q_iast hE hW hkb8 rfl (q_in kv7 (by decide) (by decide)) trivial (by decide) dX12_readAsTold_131 (fun H locs ks11 kp12 hW => ?_)
        obtain ⟨kx13, ekx13⟩ : ∃ y : Int32, y = kx1 + 1 := ⟨_, rfl⟩
        have vkx13 : q_V 1 3 kx13 := by rw [ekx13]; exact (q_add kv7 (q_c (k := 1) (x := 1) (by decide)) (by decide) (by decide)).w (by decide) (by decide)
        have ikx13 : kx13.toInt = kx1.toInt + 1 := q_incT ekx13 kv7 (by decide) (by decide) (by decide)
        refine lv_iinc (v := kx13) (lv' := [(1, .int kx13), (0, .ref a0)]) hx hb dX12_readAsTold_132 hl (k := 1) rfl (by rw [ekx13]; rfl) (by decide) rfl (fun ls hl => ?_)
        refine lv_goto (tgt := 115) hx hb dX12_readAsTold_135 (by decide) ?_
        exact ih115a _ _ _ kx13 (vkx13.w (by decide) (by decide)) kx3 vkx3 ((kp12.2.2.2.1 _ _).trans ke4) hW (hff115a.wA kp12) ls (lv_sub hl [1, 0] rfl) (Nat.lt_of_lt_of_le (q_up (ikx13) (show q_V 1 3 kx13 from vkx13).2) (Nat.le_of_lt_succ hm115a))
  have lp89a : ∀ (n89a : Nat) (ks15 : q_S) (H : Heap) (locs : List Loc) (kx14 : Int32) (vkx14 : q_V 0 36 kx14) (kx16 : Int32) (vkx16 : q_V 0 0 kx16) (ke17 : q_I ks15 a0 26 = kx16) (hW : q_Wd G [40, 48, 49, 50, 51, 52] σ s.heap ks15 H locs) (hff89a : q_ff σ ks15 a0 [17, 22, 24, 25, 26]) (ls : Array Slot) (hl : lv_has ls 2 [(0, .ref a0), (1, .int kx14)]), (36 - kx14.toInt).toNat < n89a → W p l e (q_Rm 1) s m args below meth c H locs 0 0 (MQ below (q_Qv G [40, 48, 49, 50, 51, 52] σ (fun σ1 => q_I σ1 a0 26 = 0 ∧ q_ff σ σ1 a0 [17, 22, 24, 25, 26])) args s 0 0 (q_N G)) (F0 m 89 ls []) := by
    intro n89a
    induction n89a with
    | zero => intro _ _ _ _ _ _ _ _ _ _ _ _; exact fun h => absurd h (Nat.not_lt_zero _)
    | succ n89a ih89a =>
      intro ks15 H locs kx14 vkx14 kx16 vkx16 ke17 hW hff89a ls hl hm89a
      refine lv_iload_n hx hb dX12_readAsTold_89 rfl (lv_at hl 1 rfl) ?_
      refine lv_bipush (v := 36) hx hb dX12_readAsTold_90 (by decide) ?_
      refine lv_icmp_ge (tgt := 113) hx hb dX12_readAsTold_92 (by decide) (fun kc18 => ?_) (fun kc18 => ?_)
      · have kv19 : q_V 36 36 kx14 := (q_le2 (q_c (k := 36) (x := 36) (by decide)) vkx14 kc18).w (by decide) (by decide)
        refine lv_iconst (v := 0) hx hb dX12_readAsTold_113 (by decide) ?_
        refine lv_istore_n (lv' := [(1, .int 0), (0, .ref a0)]) hx hb dX12_readAsTold_114 rfl hl (by decide) rfl (fun ls hl => ?_)
        exact lp115a _ _ _ _ 0 ((q_c (k := 0) (x := 0) (by decide)).w (by decide) (by decide)) kx16 vkx16 ke17 hW hff89a ls (lv_sub hl [1, 0] rfl) (Nat.lt_succ_self _)
      · have kv20 : q_V 0 35 kx14 := (q_lt1 vkx14 (q_c (k := 36) (x := 36) (by decide)) (Int32.not_le.mp kc18)).w (by decide) (by decide)
        refine lv_aload_n hx hb dX12_readAsTold_95 rfl (lv_at hl 0 rfl) ?_
        refine q_getr hE hW h0 rfl q_k12 21 (by decide) rfl (hE.l wl_140) dX12_readAsTold_96 (fun kb21 ekb21 hkb21a hkb21b => ?_)
        have hkb21 : q_T G kb21 = 51 := q_tag hkb21a hkb21b
        refine lv_iload_n hx hb dX12_readAsTold_99 rfl (lv_at hl 1 rfl) ?_
        refine lv_aload_n hx hb dX12_readAsTold_100 rfl (lv_at hl 0 rfl) ?_
        refine q_getr hE hW h0 rfl q_k12 4 (by decide) rfl (hE.l wl_132) dX12_readAsTold_101 (fun kb22 ekb22 hkb22a hkb22b => ?_)
        have hkb22 : q_T G kb22 = 44 := q_tag hkb22a hkb22b
        refine lv_iload_n hx hb dX12_readAsTold_104 rfl (lv_at hl 1 rfl) ?_
        refine q_iald hE hW hkb22 rfl (q_in kv20 (by decide) (by decide)) dX12_readAsTold_105 (fun kx23 ekx23 gkx23 => ?_)
        refine q_iast hE hW hkb21 rfl (q_in kv20 (by decide) (by decide)) trivial (by decide) dX12_readAsTold_106 (fun H locs ks24 kp25 hW => ?_)
        obtain ⟨kx26, ekx26⟩ : ∃ y : Int32, y = kx14 + 1 := ⟨_, rfl⟩
        have vkx26 : q_V 1 36 kx26 := by rw [ekx26]; exact (q_add kv20 (q_c (k := 1) (x := 1) (by decide)) (by decide) (by decide)).w (by decide) (by decide)
        have ikx26 : kx26.toInt = kx14.toInt + 1 := q_incT ekx26 kv20 (by decide) (by decide) (by decide)
        refine lv_iinc (v := kx26) (lv' := [(1, .int kx26), (0, .ref a0)]) hx hb dX12_readAsTold_107 hl (k := 1) rfl (by rw [ekx26]; rfl) (by decide) rfl (fun ls hl => ?_)
        refine lv_goto (tgt := 89) hx hb dX12_readAsTold_110 (by decide) ?_
        exact ih89a _ _ _ kx26 (vkx26.w (by decide) (by decide)) kx16 vkx16 ((kp25.2.2.2.1 _ _).trans ke17) hW (hff89a.wA kp25) ls (lv_sub hl [1, 0] rfl) (Nat.lt_of_lt_of_le (q_up (ikx26) (show q_V 1 36 kx26 from vkx26).2) (Nat.le_of_lt_succ hm89a))
  have lp39a : ∀ (n39a : Nat) (ks28 : q_S) (H : Heap) (locs : List Loc) (kx27 : Int32) (vkx27 : q_V 0 6 kx27) (kx29 : Int32) (vkx29 : q_V 0 0 kx29) (ke30 : q_I ks28 a0 26 = kx29) (hW : q_Wd G [40, 48, 49, 50, 51, 52] σ s.heap ks28 H locs) (hff39a : q_ff σ ks28 a0 [17, 22, 24, 25, 26]) (ls : Array Slot) (hl : lv_has ls 2 [(0, .ref a0), (1, .int kx27)]), (6 - kx27.toInt).toNat < n39a → W p l e (q_Rm 1) s m args below meth c H locs 0 0 (MQ below (q_Qv G [40, 48, 49, 50, 51, 52] σ (fun σ1 => q_I σ1 a0 26 = 0 ∧ q_ff σ σ1 a0 [17, 22, 24, 25, 26])) args s 0 0 (q_N G)) (F0 m 39 ls []) := by
    intro n39a
    induction n39a with
    | zero => intro _ _ _ _ _ _ _ _ _ _ _ _; exact fun h => absurd h (Nat.not_lt_zero _)
    | succ n39a ih39a =>
      intro ks28 H locs kx27 vkx27 kx29 vkx29 ke30 hW hff39a ls hl hm39a
      refine lv_iload_n hx hb dX12_readAsTold_39 rfl (lv_at hl 1 rfl) ?_
      refine lv_bipush (v := 6) hx hb dX12_readAsTold_40 (by decide) ?_
      refine lv_icmp_ge (tgt := 87) hx hb dX12_readAsTold_42 (by decide) (fun kc31 => ?_) (fun kc31 => ?_)
      · have kv32 : q_V 6 6 kx27 := (q_le2 (q_c (k := 6) (x := 6) (by decide)) vkx27 kc31).w (by decide) (by decide)
        refine lv_iconst (v := 0) hx hb dX12_readAsTold_87 (by decide) ?_
        refine lv_istore_n (lv' := [(1, .int 0), (0, .ref a0)]) hx hb dX12_readAsTold_88 rfl hl (by decide) rfl (fun ls hl => ?_)
        exact lp89a _ _ _ _ 0 ((q_c (k := 0) (x := 0) (by decide)).w (by decide) (by decide)) kx29 vkx29 ke30 hW hff39a ls (lv_sub hl [1, 0] rfl) (Nat.lt_succ_self _)
      · have kv33 : q_V 0 5 kx27 := (q_lt1 vkx27 (q_c (k := 6) (x := 6) (by decide)) (Int32.not_le.mp kc31)).w (by decide) (by decide)
        refine lv_aload_n hx hb dX12_readAsTold_45 rfl (lv_at hl 0 rfl) ?_
        refine q_getr hE hW h0 rfl q_k12 18 (by decide) rfl (hE.l wl_137) dX12_readAsTold_46 (fun kb34 ekb34 hkb34a hkb34b => ?_)
        have hkb34 : q_T G kb34 = 48 := q_tag hkb34a hkb34b
        refine lv_iload_n hx hb dX12_readAsTold_49 rfl (lv_at hl 1 rfl) ?_
        refine lv_aload_n hx hb dX12_readAsTold_50 rfl (lv_at hl 0 rfl) ?_
        refine q_getr hE hW h0 rfl q_k12 1 (by decide) rfl (hE.l wl_129) dX12_readAsTold_51 (fun kb35 ekb35 hkb35a hkb35b => ?_)
        have hkb35 : q_T G kb35 = 41 := q_tag hkb35a hkb35b
        refine lv_iload_n hx hb dX12_readAsTold_54 rfl (lv_at hl 1 rfl) ?_
        refine q_iald hE hW hkb35 rfl (q_in kv33 (by decide) (by decide)) dX12_readAsTold_55 (fun kx36 ekx36 gkx36 => ?_)
        refine q_iast hE hW hkb34 rfl (q_in kv33 (by decide) (by decide)) trivial (by decide) dX12_readAsTold_56 (fun H locs ks37 kp38 hW => ?_)
        refine lv_aload_n hx hb dX12_readAsTold_57 rfl (lv_at hl 0 rfl) ?_
        refine q_getr hE hW h0 rfl q_k12 19 (by decide) rfl (hE.l wl_138) dX12_readAsTold_58 (fun kb39 ekb39 hkb39a hkb39b => ?_)
        have hkb39 : q_T G kb39 = 49 := q_tag hkb39a hkb39b
        refine lv_iload_n hx hb dX12_readAsTold_61 rfl (lv_at hl 1 rfl) ?_
        refine lv_aload_n hx hb dX12_readAsTold_62 rfl (lv_at hl 0 rfl) ?_
        refine q_getr hE hW h0 rfl q_k12 2 (by decide) rfl (hE.l wl_130) dX12_readAsTold_63 (fun kb40 ekb40 hkb40a hkb40b => ?_)
        have hkb40 : q_T G kb40 = 42 := q_tag hkb40a hkb40b
        refine lv_iload_n hx hb dX12_readAsTold_66 rfl (lv_at hl 1 rfl) ?_
        refine q_iald hE hW hkb40 rfl (q_in kv33 (by decide) (by decide)) dX12_readAsTold_67 (fun kx41 ekx41 gkx41 => ?_)
        refine q_iast hE hW hkb39 rfl (q_in kv33 (by decide) (by decide)) trivial (by decide) dX12_readAsTold_68 (fun H locs ks42 kp43 hW => ?_)
        refine lv_aload_n hx hb dX12_readAsTold_69 rfl (lv_at hl 0 rfl) ?_
        refine q_getr hE hW h0 rfl q_k12 20 (by decide) rfl (hE.l wl_139) dX12_readAsTold_70 (fun kb44 ekb44 hkb44a hkb44b => ?_)
        have hkb44 : q_T G kb44 = 50 := q_tag hkb44a hkb44b
        refine lv_iload_n hx hb dX12_readAsTold_73 rfl (lv_at hl 1 rfl) ?_
        refine lv_aload_n hx hb dX12_readAsTold_74 rfl (lv_at hl 0 rfl) ?_
        refine q_getr hE hW h0 rfl q_k12 3 (by decide) rfl (hE.l wl_131) dX12_readAsTold_75 (fun kb45 ekb45 hkb45a hkb45b => ?_)
        have hkb45 : q_T G kb45 = 43 := q_tag hkb45a hkb45b
        refine lv_iload_n hx hb dX12_readAsTold_78 rfl (lv_at hl 1 rfl) ?_
        refine q_iald hE hW hkb45 rfl (q_in kv33 (by decide) (by decide)) dX12_readAsTold_79 (fun kx46 ekx46 gkx46 => ?_)
        refine q_iast hE hW hkb44 rfl (q_in kv33 (by decide) (by decide)) trivial (by decide) dX12_readAsTold_80 (fun H locs ks47 kp48 hW => ?_)
        obtain ⟨kx49, ekx49⟩ : ∃ y : Int32, y = kx27 + 1 := ⟨_, rfl⟩
        have vkx49 : q_V 1 6 kx49 := by rw [ekx49]; exact (q_add kv33 (q_c (k := 1) (x := 1) (by decide)) (by decide) (by decide)).w (by decide) (by decide)
        have ikx49 : kx49.toInt = kx27.toInt + 1 := q_incT ekx49 kv33 (by decide) (by decide) (by decide)
        refine lv_iinc (v := kx49) (lv' := [(1, .int kx49), (0, .ref a0)]) hx hb dX12_readAsTold_81 hl (k := 1) rfl (by rw [ekx49]; rfl) (by decide) rfl (fun ls hl => ?_)
        refine lv_goto (tgt := 39) hx hb dX12_readAsTold_84 (by decide) ?_
        exact ih39a _ _ _ kx49 (vkx49.w (by decide) (by decide)) kx29 vkx29 ((((kp48.2.2.2.1 _ _).trans (kp43.2.2.2.1 _ _)).trans (kp38.2.2.2.1 _ _)).trans ke30) hW (((hff39a.wA kp38).wA kp43).wA kp48) ls (lv_sub hl [1, 0] rfl) (Nat.lt_of_lt_of_le (q_up (ikx49) (show q_V 1 6 kx49 from vkx49).2) (Nat.le_of_lt_succ hm39a))
  refine lv_aload_n hx hb dX12_readAsTold_0 rfl (lv_at hl 0 rfl) ?_
  refine lv_aload_n hx hb dX12_readAsTold_1 rfl (lv_at hl 0 rfl) ?_
  refine q_geti hE hW h0 rfl q_k12 0 (by decide) rfl (hE.l wl_358) dX12_readAsTold_2 (fun kx50 ekx50 vkx50 => ?_)
  refine q_puti hE hW h0 rfl q_k12 tyX12 tyX12_ok 17 (by decide) rfl (hE.l wl_359) rfl rfl rfl vkx50 (by decide) dX12_readAsTold_5 (fun H locs ks51 kp52 hW => ?_)
  refine lv_aload_n hx hb dX12_readAsTold_8 rfl (lv_at hl 0 rfl) ?_
  refine lv_aload_n hx hb dX12_readAsTold_9 rfl (lv_at hl 0 rfl) ?_
  refine q_geti hE hW h0 rfl q_k12 5 (by decide) rfl (hE.l wl_360) dX12_readAsTold_10 (fun kx53 ekx53 vkx53 => ?_)
  refine q_puti hE hW h0 rfl q_k12 tyX12 tyX12_ok 22 (by decide) rfl (hE.l wl_361) rfl rfl rfl vkx53 (by decide) dX12_readAsTold_13 (fun H locs ks54 kp55 hW => ?_)
  refine lv_aload_n hx hb dX12_readAsTold_16 rfl (lv_at hl 0 rfl) ?_
  refine lv_aload_n hx hb dX12_readAsTold_17 rfl (lv_at hl 0 rfl) ?_
  refine q_geti hE hW h0 rfl q_k12 7 (by decide) rfl (hE.l wl_362) dX12_readAsTold_18 (fun kx56 ekx56 vkx56 => ?_)
  refine q_puti hE hW h0 rfl q_k12 tyX12 tyX12_ok 24 (by decide) rfl (hE.l wl_363) rfl rfl rfl (q_all kx56) (by decide) dX12_readAsTold_21 (fun H locs ks57 kp58 hW => ?_)
  refine lv_aload_n hx hb dX12_readAsTold_24 rfl (lv_at hl 0 rfl) ?_
  refine lv_aload_n hx hb dX12_readAsTold_25 rfl (lv_at hl 0 rfl) ?_
  refine q_geti hE hW h0 rfl q_k12 8 (by decide) rfl (hE.l wl_134) dX12_readAsTold_26 (fun kx59 ekx59 vkx59 => ?_)
  refine q_puti hE hW h0 rfl q_k12 tyX12 tyX12_ok 25 (by decide) rfl (hE.l wl_364) rfl rfl rfl (q_all kx59) (by decide) dX12_readAsTold_29 (fun H locs ks60 kp61 hW => ?_)
  refine lv_aload_n hx hb dX12_readAsTold_32 rfl (lv_at hl 0 rfl) ?_
  refine lv_iconst (v := 0) hx hb dX12_readAsTold_33 (by decide) ?_
  refine q_puti hE hW h0 rfl q_k12 tyX12 tyX12_ok 26 (by decide) rfl (hE.l wl_353) rfl rfl rfl ((q_c (k := 0) (x := 0) (by decide)).w (by decide) (by decide)) (by decide) dX12_readAsTold_34 (fun H locs ks62 kp63 hW => ?_)
  refine lv_iconst (v := 0) hx hb dX12_readAsTold_37 (by decide) ?_
  refine lv_istore_n (lv' := [(1, .int 0), (0, .ref a0)]) hx hb dX12_readAsTold_38 rfl hl (by decide) rfl (fun ls hl => ?_)
  exact lp39a _ _ _ _ 0 ((q_c (k := 0) (x := 0) (by decide)).w (by decide) (by decide)) 0 (q_c (k := 0) (x := 0) (by decide)) kp63.1 hW (((((q_ff.rf.wI kp52 (by decide)).wI kp55 (by decide)).wI kp58 (by decide)).wI kp61 (by decide)).wI kp63 (by decide)) ls (lv_sub hl [1, 0] rfl) (Nat.lt_succ_self _)
set_option maxHeartbeats 4000000 in
set_option maxRecDepth 100000 in
theorem c_X12_readsAll (l : Launch) (G : q_G) (σ : q_S) (a0 : Nat) (h0 : q_T G a0 = 40)  : Met l yX12_readsAll (Cond.code yX12_readsAll cX12_readsAll 3 (some .boolean) :: wsL_law) (q_Rm 7) (q_Pre G σ [.ref a0]) (q_Qi G [40, 48, 49, 50, 51, 52] σ (fun r σ1 => q_V 0 1 r)) 0 0 (q_N G) := by
  refine q_ofW (ts := [40, 48, 49, 50, 51, 52]) (by decide) (Nat.le_of_ble_eq_true rfl) ?_
  intro p e s m args below meth c hE hr hlocks hW ls hl
  have hE : q_E G p s m args c cX12_readsAll 3 RX12 := hE
  have hx := hE.1.1
  have hb := hE.1.2.1
  have hl : lv_has ls 3 [(0, .ref a0)] := hl
  have lp17a : ∀ (n17a : Nat) (ks3 : q_S) (H : Heap) (locs : List Loc) (kx1 : Int32) (vkx1 : q_V 0 1 kx1) (kx2 : Int32) (vkx2 : q_V 0 1 kx2) (kx4 : Int32) (vkx4 : q_V 0 20 kx4) (ke5 : q_I ks3 a0 26 = kx4) (hW : q_Wd G [40, 48, 49, 50, 51, 52] σ s.heap ks3 H locs) (hat17a : q_at ks3 a0) (htk17a : q_tk ks3 a0) (iv17a0 : (kx1 : Int32).toInt ≠ 0 → (kx2 : Int32).toInt ≠ 0 → (kx4 : Int32).toInt ≤ 19) (ls : Array Slot) (hl : lv_has ls 3 [(0, .ref a0), (1, .int kx1), (2, .int kx2)]), (if (kx1 : Int32) = 0 then 0 else if (kx2 : Int32) = 0 then 0 else (21 - (kx4 : Int32).toInt).toNat) < n17a → W p l e (q_Rm 7) s m args below meth c H locs 0 0 (MQ below (q_Qi G [40, 48, 49, 50, 51, 52] σ (fun r σ1 => q_V 0 1 r)) args s 0 0 (q_N G)) (F0 m 17 ls []) := by
    intro n17a
    induction n17a with
    | zero => intro _ _ _ _ _ _ _ _ _ _ _ _ _ _ _ _; exact fun h => absurd h (Nat.not_lt_zero _)
    | succ n17a ih17a =>
      intro ks3 H locs kx1 vkx1 kx2 vkx2 kx4 vkx4 ke5 hW hat17a htk17a iv17a0 ls hl hm17a
      refine lv_iload_n hx hb dX12_readsAll_17 rfl (lv_at hl 1 rfl) ?_
      refine lv_if_eq (tgt := 133) hx hb dX12_readsAll_18 (by decide) (fun kc6 => ?_) (fun kc6 => ?_)
      · have kv7 : q_V 0 0 kx1 := q_eq1 vkx1 (q_c (k := 0) (x := 0) (by decide)) kc6 (by decide) (by decide)
        refine lv_iload_n hx hb dX12_readsAll_133 rfl (lv_at hl 1 rfl) ?_
        exact q_retz hE hr hlocks hW (q_01 (kv7.w (by decide) (by decide))) ((kv7.w (by decide) (by decide))) dX12_readsAll_134
      · have kv8 : q_V 1 1 kx1 := q_ne1 vkx1 (q_c (k := 0) (x := 0) (by decide)) kc6 (by decide)
        refine lv_iload_n hx hb dX12_readsAll_21 rfl (lv_at hl 2 rfl) ?_
        refine lv_if_eq (tgt := 133) hx hb dX12_readsAll_22 (by decide) (fun kc9 => ?_) (fun kc9 => ?_)
        · have kv10 : q_V 0 0 kx2 := q_eq1 vkx2 (q_c (k := 0) (x := 0) (by decide)) kc9 (by decide) (by decide)
          refine lv_iload_n hx hb dX12_readsAll_133 rfl (lv_at hl 1 rfl) ?_
          exact q_retz hE hr hlocks hW (q_01 (kv8.w (by decide) (by decide))) ((kv8.w (by decide) (by decide))) dX12_readsAll_134
        · have kv11 : q_V 1 1 kx2 := q_ne1 vkx2 (q_c (k := 0) (x := 0) (by decide)) kc9 (by decide)
          refine lv_aload_n hx hb dX12_readsAll_25 rfl (lv_at hl 0 rfl) ?_
          refine q_geti hE hW h0 rfl q_k12 13 (by decide) rfl (hE.l wl_352) dX12_readsAll_26 (fun kx12 ekx12 vkx12 => ?_)
          refine lv_iconst (v := 1) hx hb dX12_readsAll_29 (by decide) ?_
          refine lv_icmp_ne (tgt := 44) hx hb dX12_readsAll_30 (by decide) (fun kc13 => ?_) (fun kc13 => ?_)
          · refine lv_iconst (v := 0) hx hb dX12_readsAll_44 (by decide) ?_
            refine lv_istore_n (lv' := [(1, .int 0), (0, .ref a0), (2, .int kx2)]) hx hb dX12_readsAll_45 rfl hl (by decide) rfl (fun ls hl => ?_)
            refine lv_iload_n hx hb dX12_readsAll_46 rfl (lv_at hl 0 rfl) ?_
            refine lv_if_eq (tgt := 17) hx hb dX12_readsAll_47 (by decide) (fun kc14 => ?_) (fun kc14 => ?_)
            · exact ih17a _ _ _ 0 ((q_c (k := 0) (x := 0) (by decide)).w (by decide) (by decide)) kx2 (kv11.w (by decide) (by decide)) kx4 vkx4 ke5 hW hat17a htk17a (by show (0 : Int32).toInt ≠ 0 → (kx2 : Int32).toInt ≠ 0 → (kx4 : Int32).toInt ≤ 19; have := ((q_c (k := 0) (x := 0) (by decide))).1; have := ((q_c (k := 0) (x := 0) (by decide))).2; have := (kv11).1; have := (kv11).2; have := (vkx4).1; have := (vkx4).2; have := q_ine kc6; have := q_ine kc9; have := q_ine kc13; have := congrArg Int32.toInt kc14; omega) ls (lv_sub hl [1, 0, 2] rfl) (Nat.lt_of_lt_of_le (by rw [if_neg (q_ne0 kv8 (by decide)), if_neg (q_ne0 kv11 (by decide))]; have := (vkx4).1; have := (vkx4).2; have := q_ine kc6; have := q_ine kc9; have := q_ine kc13; have := congrArg Int32.toInt kc14; have := vkx4.1; have := vkx4.2; rw [if_pos (q_lit (q_c (k := 0) (x := 0) (by decide)) (by decide) : (0 : Int32) = 0)]; omega) (Nat.le_of_lt_succ hm17a))
            · exact q_neq (q_c (k := 0) (x := 0) (by decide)) (q_c (k := 0) (x := 0) (by decide)) kc14
          · have kv15 : q_V 1 1 kx12 := q_eq1 vkx12 (q_c (k := 1) (x := 1) (by decide)) kc13 (by decide) (by decide)
            refine lv_aload_n hx hb dX12_readsAll_33 rfl (lv_at hl 0 rfl) ?_
            refine q_goi hW (q_runV (As := []) (rest := []) hE hW (c_X12_readsClause l G ks3 a0 h0 hat17a htk17a) kw_X12_214 (q_recv hE hW h0 rfl q_k12) rfl hl.1 rfl (Nat.le_of_ble_eq_true rfl) dX12_readsAll_34 ⟨by decide, by decide⟩ ⟨by decide, by decide⟩) (by decide) (fun kx19 ks17 H locs kp16 kf18 hW => ?_)
            refine lv_if_eq (tgt := 44) hx hb dX12_readsAll_37 (by decide) (fun kc20 => ?_) (fun kc20 => ?_)
            · have kv21 : q_V 0 0 kx19 := q_eq1 kp16.1 (q_c (k := 0) (x := 0) (by decide)) kc20 (by decide) (by decide)
              refine lv_iconst (v := 0) hx hb dX12_readsAll_44 (by decide) ?_
              refine lv_istore_n (lv' := [(1, .int 0), (0, .ref a0), (2, .int kx2)]) hx hb dX12_readsAll_45 rfl hl (by decide) rfl (fun ls hl => ?_)
              refine lv_iload_n hx hb dX12_readsAll_46 rfl (lv_at hl 0 rfl) ?_
              refine lv_if_eq (tgt := 17) hx hb dX12_readsAll_47 (by decide) (fun kc22 => ?_) (fun kc22 => ?_)
              · exact ih17a _ _ _ 0 ((q_c (k := 0) (x := 0) (by decide)).w (by decide) (by decide)) kx2 (kv11.w (by decide) (by decide)) kx4 vkx4 ((kp16.2.2.2.1 26 (by decide)).trans ke5) hW kp16.2.1 kp16.2.2.1 (by show (0 : Int32).toInt ≠ 0 → (kx2 : Int32).toInt ≠ 0 → (kx4 : Int32).toInt ≤ 19; have := ((q_c (k := 0) (x := 0) (by decide))).1; have := ((q_c (k := 0) (x := 0) (by decide))).2; have := (kv11).1; have := (kv11).2; have := (vkx4).1; have := (vkx4).2; have := q_ine kc6; have := q_ine kc9; have := congrArg Int32.toInt kc13; have := congrArg Int32.toInt kc20; have := congrArg Int32.toInt kc22; omega) ls (lv_sub hl [1, 0, 2] rfl) (Nat.lt_of_lt_of_le (by rw [if_neg (q_ne0 kv8 (by decide)), if_neg (q_ne0 kv11 (by decide))]; have := (vkx4).1; have := (vkx4).2; have := q_ine kc6; have := q_ine kc9; have := congrArg Int32.toInt kc13; have := congrArg Int32.toInt kc20; have := congrArg Int32.toInt kc22; have := vkx4.1; have := vkx4.2; rw [if_pos (q_lit (q_c (k := 0) (x := 0) (by decide)) (by decide) : (0 : Int32) = 0)]; omega) (Nat.le_of_lt_succ hm17a))
              · exact q_neq (q_c (k := 0) (x := 0) (by decide)) (q_c (k := 0) (x := 0) (by decide)) kc22
            · have kv23 : q_V 1 1 kx19 := q_ne1 kp16.1 (q_c (k := 0) (x := 0) (by decide)) kc20 (by decide)
              refine lv_iconst (v := 1) hx hb dX12_readsAll_40 (by decide) ?_
              refine lv_goto (tgt := 45) hx hb dX12_readsAll_41 (by decide) ?_
              refine lv_istore_n (lv' := [(1, .int 1), (0, .ref a0), (2, .int kx2)]) hx hb dX12_readsAll_45 rfl hl (by decide) rfl (fun ls hl => ?_)
              refine lv_iload_n hx hb dX12_readsAll_46 rfl (lv_at hl 0 rfl) ?_
              refine lv_if_eq (tgt := 17) hx hb dX12_readsAll_47 (by decide) (fun kc24 => ?_) (fun kc24 => ?_)
              · have kv25 : q_V 1 0 1 := q_eq1 (q_c (k := 1) (x := 1) (by decide)) (q_c (k := 0) (x := 0) (by decide)) kc24 (by decide) (by decide)
                exact (kv25.no (by decide))
              · refine lv_aload_n hx hb dX12_readsAll_50 rfl (lv_at hl 1 rfl) ?_
                refine lv_dup hx hb dX12_readsAll_51 rfl ?_
                refine q_geti hE hW h0 rfl q_k12 26 (by decide) rfl (hE.l wl_353) dX12_readsAll_52 (fun kx26 ekx26 vkx26 => ?_)
                obtain rfl : kx4 = kx26 := ((kp16.2.2.2.1 26 (by decide)).trans ke5).symm.trans ekx26
                have kh27 : (kx4 : Int32).toInt ≤ 19 := by have := (kv8).1; have := (kv11).1; omega
                have kv28 : q_V 0 19 kx4 := ⟨(vkx4).1, kh27⟩
                refine lv_iconst (v := 1) hx hb dX12_readsAll_55 (by decide) ?_
                refine lv_iadd hx hb dX12_readsAll_56 ?_
                refine lv_topi (fun kx29 ekx29 => ?_)
                have vkx29 : q_V 1 20 kx29 := by rw [ekx29]; exact (q_add kv28 (q_c (k := 1) (x := 1) (by decide)) (by decide) (by decide)).w (by decide) (by decide)
                have ikx29 : kx29.toInt = kx4.toInt + 1 := q_incT ekx29 kv28 (by decide) (by decide) (by decide)
                refine q_puti hE hW h0 rfl q_k12 tyX12 tyX12_ok 26 (by decide) rfl (hE.l wl_353) rfl rfl rfl (vkx29.w (by decide) (by decide)) (by decide) dX12_readsAll_57 (fun H locs ks30 kp31 hW => ?_)
                refine lv_aload_n hx hb dX12_readsAll_60 rfl (lv_at hl 1 rfl) ?_
                refine q_gov hW (q_runV (As := []) (rest := []) hE hW (c_X12_next l G ks30 a0 h0 (q_atC kp16.2.1 (kp31.2.1 _ _ (Or.inr (by decide))) (kp31.2.1 _ _ (Or.inr (by decide))))) kw_X12_163 (q_recv hE hW h0 rfl q_k12) rfl hl.1 rfl (Nat.le_of_ble_eq_true rfl) dX12_readsAll_61 ⟨by decide, by decide⟩ ⟨by decide, by decide⟩) (by decide) (fun ks33 H locs kp32 kf34 hW => ?_)
                refine lv_aload_n hx hb dX12_readsAll_64 rfl (lv_at hl 1 rfl) ?_
                refine q_geti hE hW h0 rfl q_k12 13 (by decide) rfl (hE.l wl_352) dX12_readsAll_65 (fun kx35 ekx35 vkx35 => ?_)
                refine lv_if_eq (tgt := 75) hx hb dX12_readsAll_68 (by decide) (fun kc36 => ?_) (fun kc36 => ?_)
                · have kv37 : q_V 0 0 kx35 := q_eq1 vkx35 (q_c (k := 0) (x := 0) (by decide)) kc36 (by decide) (by decide)
                  refine lv_iconst (v := 0) hx hb dX12_readsAll_75 (by decide) ?_
                  refine lv_istore_n (lv' := [(2, .int 0), (1, .int 1), (0, .ref a0)]) hx hb dX12_readsAll_76 rfl hl (by decide) rfl (fun ls hl => ?_)
                  refine lv_iload_n hx hb dX12_readsAll_77 rfl (lv_at hl 0 rfl) ?_
                  refine lv_if_eq (tgt := 112) hx hb dX12_readsAll_78 (by decide) (fun kc38 => ?_) (fun kc38 => ?_)
                  · refine lv_iconst (v := 1) hx hb dX12_readsAll_112 (by decide) ?_
                    refine lv_goto (tgt := 117) hx hb dX12_readsAll_113 (by decide) ?_
                    refine lv_istore_n (lv' := [(1, .int 1), (2, .int 0), (0, .ref a0)]) hx hb dX12_readsAll_117 rfl hl (by decide) rfl (fun ls hl => ?_)
                    refine lv_iload_n hx hb dX12_readsAll_118 rfl (lv_at hl 0 rfl) ?_
                    refine lv_if_eq (tgt := 17) hx hb dX12_readsAll_119 (by decide) (fun kc39 => ?_) (fun kc39 => ?_)
                    · have kv40 : q_V 1 0 1 := q_eq1 (q_c (k := 1) (x := 1) (by decide)) (q_c (k := 0) (x := 0) (by decide)) kc39 (by decide) (by decide)
                      exact (kv40.no (by decide))
                    · refine lv_iload_n hx hb dX12_readsAll_122 rfl (lv_at hl 1 rfl) ?_
                      refine lv_if_eq (tgt := 17) hx hb dX12_readsAll_123 (by decide) (fun kc41 => ?_) (fun kc41 => ?_)
                      · exact ih17a _ _ _ 1 ((q_c (k := 1) (x := 1) (by decide)).w (by decide) (by decide)) 0 ((q_c (k := 0) (x := 0) (by decide)).w (by decide) (by decide)) kx29 (vkx29.w (by decide) (by decide)) ((kp32.2.2.1 26 (by decide)).trans kp31.1) hW kp32.1 kp32.2.1 (by show (1 : Int32).toInt ≠ 0 → (0 : Int32).toInt ≠ 0 → (kx29 : Int32).toInt ≤ 19; have := ((q_c (k := 1) (x := 1) (by decide))).1; have := ((q_c (k := 1) (x := 1) (by decide))).2; have := ((q_c (k := 0) (x := 0) (by decide))).1; have := ((q_c (k := 0) (x := 0) (by decide))).2; have := (vkx29).1; have := (vkx29).2; have := q_ine kc6; have := q_ine kc9; have := congrArg Int32.toInt kc13; have := q_ine kc20; have := q_ine kc24; have := congrArg Int32.toInt kc36; have := congrArg Int32.toInt kc38; have := q_ine kc39; have := congrArg Int32.toInt kc41; omega) ls (lv_sub hl [2, 0, 1] rfl) (Nat.lt_of_lt_of_le (by rw [if_neg (q_ne0 kv8 (by decide)), if_neg (q_ne0 kv11 (by decide))]; have := (vkx29).1; have := (vkx29).2; have := q_ine kc6; have := q_ine kc9; have := congrArg Int32.toInt kc13; have := q_ine kc20; have := q_ine kc24; have := congrArg Int32.toInt kc36; have := congrArg Int32.toInt kc38; have := q_ine kc39; have := congrArg Int32.toInt kc41; have := vkx4.1; have := vkx4.2; rw [if_pos (q_lit (q_c (k := 0) (x := 0) (by decide)) (by decide) : (0 : Int32) = 0)]; split <;> omega) (Nat.le_of_lt_succ hm17a))
                      · exact q_neq (q_c (k := 0) (x := 0) (by decide)) (q_c (k := 0) (x := 0) (by decide)) kc41
                  · exact q_neq (q_c (k := 0) (x := 0) (by decide)) (q_c (k := 0) (x := 0) (by decide)) kc38
                · have kv42 : q_V 1 3 kx35 := q_ne1 vkx35 (q_c (k := 0) (x := 0) (by decide)) kc36 (by decide)
                  refine lv_iconst (v := 1) hx hb dX12_readsAll_71 (by decide) ?_
                  refine lv_goto (tgt := 76) hx hb dX12_readsAll_72 (by decide) ?_
                  refine lv_istore_n (lv' := [(2, .int 1), (1, .int 1), (0, .ref a0)]) hx hb dX12_readsAll_76 rfl hl (by decide) rfl (fun ls hl => ?_)
                  refine lv_iload_n hx hb dX12_readsAll_77 rfl (lv_at hl 0 rfl) ?_
                  refine lv_if_eq (tgt := 112) hx hb dX12_readsAll_78 (by decide) (fun kc43 => ?_) (fun kc43 => ?_)
                  · have kv44 : q_V 1 0 1 := q_eq1 (q_c (k := 1) (x := 1) (by decide)) (q_c (k := 0) (x := 0) (by decide)) kc43 (by decide) (by decide)
                    exact (kv44.no (by decide))
                  · refine lv_aload_n hx hb dX12_readsAll_81 rfl (lv_at hl 2 rfl) ?_
                    refine q_geti hE hW h0 rfl q_k12 13 (by decide) rfl (hE.l wl_352) dX12_readsAll_82 (fun kx45 ekx45 vkx45 => ?_)
                    obtain rfl : kx35 = kx45 := ekx35.symm.trans ekx45
                    refine lv_iconst (v := 3) hx hb dX12_readsAll_85 (by decide) ?_
                    refine lv_icmp_ne (tgt := 116) hx hb dX12_readsAll_86 (by decide) (fun kc46 => ?_) (fun kc46 => ?_)
                    · have kv47 : q_V 1 2 kx35 := q_ne2 kv42 (q_c (k := 3) (x := 3) (by decide)) kc46 (by decide)
                      refine lv_iconst (v := 0) hx hb dX12_readsAll_116 (by decide) ?_
                      refine lv_istore_n (lv' := [(1, .int 0), (2, .int 1), (0, .ref a0)]) hx hb dX12_readsAll_117 rfl hl (by decide) rfl (fun ls hl => ?_)
                      refine lv_iload_n hx hb dX12_readsAll_118 rfl (lv_at hl 0 rfl) ?_
                      refine lv_if_eq (tgt := 17) hx hb dX12_readsAll_119 (by decide) (fun kc48 => ?_) (fun kc48 => ?_)
                      · exact ih17a _ _ _ 0 ((q_c (k := 0) (x := 0) (by decide)).w (by decide) (by decide)) 1 ((q_c (k := 1) (x := 1) (by decide)).w (by decide) (by decide)) kx29 (vkx29.w (by decide) (by decide)) ((kp32.2.2.1 26 (by decide)).trans kp31.1) hW kp32.1 kp32.2.1 (by show (0 : Int32).toInt ≠ 0 → (1 : Int32).toInt ≠ 0 → (kx29 : Int32).toInt ≤ 19; have := ((q_c (k := 0) (x := 0) (by decide))).1; have := ((q_c (k := 0) (x := 0) (by decide))).2; have := ((q_c (k := 1) (x := 1) (by decide))).1; have := ((q_c (k := 1) (x := 1) (by decide))).2; have := (vkx29).1; have := (vkx29).2; have := q_ine kc6; have := q_ine kc9; have := congrArg Int32.toInt kc13; have := q_ine kc20; have := q_ine kc24; have := q_ine kc36; have := q_ine kc43; have := q_ine kc46; have := congrArg Int32.toInt kc48; omega) ls (lv_sub hl [2, 0, 1] rfl) (Nat.lt_of_lt_of_le (by rw [if_neg (q_ne0 kv8 (by decide)), if_neg (q_ne0 kv11 (by decide))]; have := (vkx29).1; have := (vkx29).2; have := q_ine kc6; have := q_ine kc9; have := congrArg Int32.toInt kc13; have := q_ine kc20; have := q_ine kc24; have := q_ine kc36; have := q_ine kc43; have := q_ine kc46; have := congrArg Int32.toInt kc48; have := vkx4.1; have := vkx4.2; rw [if_pos (q_lit (q_c (k := 0) (x := 0) (by decide)) (by decide) : (0 : Int32) = 0)]; omega) (Nat.le_of_lt_succ hm17a))
                      · exact q_neq (q_c (k := 0) (x := 0) (by decide)) (q_c (k := 0) (x := 0) (by decide)) kc48
                    · have kv49 : q_V 3 3 kx35 := q_eq1 kv42 (q_c (k := 3) (x := 3) (by decide)) kc46 (by decide) (by decide)
                      refine lv_aload_n hx hb dX12_readsAll_89 rfl (lv_at hl 2 rfl) ?_
                      refine q_getr hE hW h0 rfl q_k12 10 (by decide) rfl (hE.l wl_136) dX12_readsAll_90 (fun kb50 ekb50 hkb50a hkb50b => ?_)
                      have hkb50 : q_T G kb50 = 47 := q_tag hkb50a hkb50b
                      refine lv_aload_n hx hb dX12_readsAll_93 rfl (lv_at hl 2 rfl) ?_
                      refine q_geti hE hW h0 rfl q_k12 14 (by decide) rfl (hE.l wl_346) dX12_readsAll_94 (fun kx51 ekx51 vkx51 => ?_)
                      have kh52 : (kx51 : Int32).toInt ≤ 199 := by have q_h := kp32.2.1; unfold q_tk at q_h; rw [ekx35, ekx51] at q_h; exact (q_h (by have := (kv49).1; have := (kv49).2; have := q_ine kc6; have := q_ine kc9; have := congrArg Int32.toInt kc13; have := q_ine kc20; have := q_ine kc24; have := q_ine kc36; have := q_ine kc43; have := congrArg Int32.toInt kc46; omega)).1
                      have kv53 : q_V 0 199 kx51 := ⟨(vkx51).1, kh52⟩
                      refine q_iald hE hW hkb50 rfl (q_in kv53 (by decide) (by decide)) dX12_readsAll_97 (fun kx54 ekx54 gkx54 => ?_)
                      refine lv_bipush (v := 59) hx hb dX12_readsAll_98 (by decide) ?_
                      refine lv_icmp_ne (tgt := 116) hx hb dX12_readsAll_100 (by decide) (fun kc55 => ?_) (fun kc55 => ?_)
                      · refine lv_iconst (v := 0) hx hb dX12_readsAll_116 (by decide) ?_
                        refine lv_istore_n (lv' := [(1, .int 0), (2, .int 1), (0, .ref a0)]) hx hb dX12_readsAll_117 rfl hl (by decide) rfl (fun ls hl => ?_)
                        refine lv_iload_n hx hb dX12_readsAll_118 rfl (lv_at hl 0 rfl) ?_
                        refine lv_if_eq (tgt := 17) hx hb dX12_readsAll_119 (by decide) (fun kc56 => ?_) (fun kc56 => ?_)
                        · exact ih17a _ _ _ 0 ((q_c (k := 0) (x := 0) (by decide)).w (by decide) (by decide)) 1 ((q_c (k := 1) (x := 1) (by decide)).w (by decide) (by decide)) kx29 (vkx29.w (by decide) (by decide)) ((kp32.2.2.1 26 (by decide)).trans kp31.1) hW kp32.1 kp32.2.1 (by show (0 : Int32).toInt ≠ 0 → (1 : Int32).toInt ≠ 0 → (kx29 : Int32).toInt ≤ 19; have := ((q_c (k := 0) (x := 0) (by decide))).1; have := ((q_c (k := 0) (x := 0) (by decide))).2; have := ((q_c (k := 1) (x := 1) (by decide))).1; have := ((q_c (k := 1) (x := 1) (by decide))).2; have := (vkx29).1; have := (vkx29).2; have := q_ine kc6; have := q_ine kc9; have := congrArg Int32.toInt kc13; have := q_ine kc20; have := q_ine kc24; have := q_ine kc36; have := q_ine kc43; have := congrArg Int32.toInt kc46; have := q_ine kc55; have := congrArg Int32.toInt kc56; omega) ls (lv_sub hl [2, 0, 1] rfl) (Nat.lt_of_lt_of_le (by rw [if_neg (q_ne0 kv8 (by decide)), if_neg (q_ne0 kv11 (by decide))]; have := (vkx29).1; have := (vkx29).2; have := q_ine kc6; have := q_ine kc9; have := congrArg Int32.toInt kc13; have := q_ine kc20; have := q_ine kc24; have := q_ine kc36; have := q_ine kc43; have := congrArg Int32.toInt kc46; have := q_ine kc55; have := congrArg Int32.toInt kc56; have := vkx4.1; have := vkx4.2; rw [if_pos (q_lit (q_c (k := 0) (x := 0) (by decide)) (by decide) : (0 : Int32) = 0)]; omega) (Nat.le_of_lt_succ hm17a))
                        · exact q_neq (q_c (k := 0) (x := 0) (by decide)) (q_c (k := 0) (x := 0) (by decide)) kc56
                      · have kv57 : q_V 59 59 kx54 := q_eq1 (q_all kx54) (q_c (k := 59) (x := 59) (by decide)) kc55 (by decide) (by decide)
                        refine lv_aload_n hx hb dX12_readsAll_103 rfl (lv_at hl 2 rfl) ?_
                        refine q_geti hE hW h0 rfl q_k12 26 (by decide) rfl (hE.l wl_353) dX12_readsAll_104 (fun kx58 ekx58 vkx58 => ?_)
                        obtain rfl : kx29 = kx58 := ((kp32.2.2.1 26 (by decide)).trans kp31.1).symm.trans ekx58
                        refine lv_bipush (v := 20) hx hb dX12_readsAll_107 (by decide) ?_
                        refine lv_icmp_ge (tgt := 116) hx hb dX12_readsAll_109 (by decide) (fun kc59 => ?_) (fun kc59 => ?_)
                        · have kv60 : q_V 20 20 kx29 := (q_le2 (q_c (k := 20) (x := 20) (by decide)) vkx29 kc59).w (by decide) (by decide)
                          refine lv_iconst (v := 0) hx hb dX12_readsAll_116 (by decide) ?_
                          refine lv_istore_n (lv' := [(1, .int 0), (2, .int 1), (0, .ref a0)]) hx hb dX12_readsAll_117 rfl hl (by decide) rfl (fun ls hl => ?_)
                          refine lv_iload_n hx hb dX12_readsAll_118 rfl (lv_at hl 0 rfl) ?_
                          refine lv_if_eq (tgt := 17) hx hb dX12_readsAll_119 (by decide) (fun kc61 => ?_) (fun kc61 => ?_)
                          · exact ih17a _ _ _ 0 ((q_c (k := 0) (x := 0) (by decide)).w (by decide) (by decide)) 1 ((q_c (k := 1) (x := 1) (by decide)).w (by decide) (by decide)) kx29 (kv60.w (by decide) (by decide)) ((kp32.2.2.1 26 (by decide)).trans kp31.1) hW kp32.1 kp32.2.1 (by show (0 : Int32).toInt ≠ 0 → (1 : Int32).toInt ≠ 0 → (kx29 : Int32).toInt ≤ 19; have := ((q_c (k := 0) (x := 0) (by decide))).1; have := ((q_c (k := 0) (x := 0) (by decide))).2; have := ((q_c (k := 1) (x := 1) (by decide))).1; have := ((q_c (k := 1) (x := 1) (by decide))).2; have := (kv60).1; have := (kv60).2; have := q_ine kc6; have := q_ine kc9; have := congrArg Int32.toInt kc13; have := q_ine kc20; have := q_ine kc24; have := q_ine kc36; have := q_ine kc43; have := congrArg Int32.toInt kc46; have := congrArg Int32.toInt kc55; have := Int32.le_iff_toInt_le.mp kc59; have := congrArg Int32.toInt kc61; omega) ls (lv_sub hl [2, 0, 1] rfl) (Nat.lt_of_lt_of_le (by rw [if_neg (q_ne0 kv8 (by decide)), if_neg (q_ne0 kv11 (by decide))]; have := (kv60).1; have := (kv60).2; have := q_ine kc6; have := q_ine kc9; have := congrArg Int32.toInt kc13; have := q_ine kc20; have := q_ine kc24; have := q_ine kc36; have := q_ine kc43; have := congrArg Int32.toInt kc46; have := congrArg Int32.toInt kc55; have := Int32.le_iff_toInt_le.mp kc59; have := congrArg Int32.toInt kc61; have := vkx4.1; have := vkx4.2; rw [if_pos (q_lit (q_c (k := 0) (x := 0) (by decide)) (by decide) : (0 : Int32) = 0)]; omega) (Nat.le_of_lt_succ hm17a))
                          · exact q_neq (q_c (k := 0) (x := 0) (by decide)) (q_c (k := 0) (x := 0) (by decide)) kc61
                        · have kv62 : q_V 1 19 kx29 := (q_lt1 vkx29 (q_c (k := 20) (x := 20) (by decide)) (Int32.not_le.mp kc59)).w (by decide) (by decide)
                          refine lv_iconst (v := 1) hx hb dX12_readsAll_112 (by decide) ?_
                          refine lv_goto (tgt := 117) hx hb dX12_readsAll_113 (by decide) ?_
                          refine lv_istore_n (lv' := [(1, .int 1), (2, .int 1), (0, .ref a0)]) hx hb dX12_readsAll_117 rfl hl (by decide) rfl (fun ls hl => ?_)
                          refine lv_iload_n hx hb dX12_readsAll_118 rfl (lv_at hl 0 rfl) ?_
                          refine lv_if_eq (tgt := 17) hx hb dX12_readsAll_119 (by decide) (fun kc63 => ?_) (fun kc63 => ?_)
                          · have kv64 : q_V 1 0 1 := q_eq1 (q_c (k := 1) (x := 1) (by decide)) (q_c (k := 0) (x := 0) (by decide)) kc63 (by decide) (by decide)
                            exact (kv64.no (by decide))
                          · refine lv_iload_n hx hb dX12_readsAll_122 rfl (lv_at hl 1 rfl) ?_
                            refine lv_if_eq (tgt := 17) hx hb dX12_readsAll_123 (by decide) (fun kc65 => ?_) (fun kc65 => ?_)
                            · have kv66 : q_V 1 0 1 := q_eq1 (q_c (k := 1) (x := 1) (by decide)) (q_c (k := 0) (x := 0) (by decide)) kc65 (by decide) (by decide)
                              exact (kv66.no (by decide))
                            · refine lv_aload_n hx hb dX12_readsAll_126 rfl (lv_at hl 2 rfl) ?_
                              refine q_gov hW (q_runV (As := []) (rest := []) hE hW (c_X12_next l G ks33 a0 h0 kp32.1) kw_X12_163 (q_recv hE hW h0 rfl q_k12) rfl hl.1 rfl (Nat.le_of_ble_eq_true rfl) dX12_readsAll_127 ⟨by decide, by decide⟩ ⟨by decide, by decide⟩) (by decide) (fun ks68 H locs kp67 kf69 hW => ?_)
                              refine lv_goto (tgt := 17) hx hb dX12_readsAll_130 (by decide) ?_
                              exact ih17a _ _ _ 1 ((q_c (k := 1) (x := 1) (by decide)).w (by decide) (by decide)) 1 ((q_c (k := 1) (x := 1) (by decide)).w (by decide) (by decide)) kx29 (kv62.w (by decide) (by decide)) (((kp67.2.2.1 26 (by decide)).trans (kp32.2.2.1 26 (by decide))).trans kp31.1) hW kp67.1 kp67.2.1 (by show (1 : Int32).toInt ≠ 0 → (1 : Int32).toInt ≠ 0 → (kx29 : Int32).toInt ≤ 19; have := ((q_c (k := 1) (x := 1) (by decide))).1; have := ((q_c (k := 1) (x := 1) (by decide))).2; have := ((q_c (k := 1) (x := 1) (by decide))).1; have := ((q_c (k := 1) (x := 1) (by decide))).2; have := (kv62).1; have := (kv62).2; have := q_ine kc6; have := q_ine kc9; have := congrArg Int32.toInt kc13; have := q_ine kc20; have := q_ine kc24; have := q_ine kc36; have := q_ine kc43; have := congrArg Int32.toInt kc46; have := congrArg Int32.toInt kc55; have := Int32.lt_iff_toInt_lt.mp (Int32.not_le.mp kc59); have := q_ine kc63; have := q_ine kc65; omega) ls (lv_sub hl [2, 0, 1] rfl) (Nat.lt_of_lt_of_le (by rw [if_neg (q_ne0 kv8 (by decide)), if_neg (q_ne0 kv11 (by decide))]; have := (kv62).1; have := (kv62).2; have := q_ine kc6; have := q_ine kc9; have := congrArg Int32.toInt kc13; have := q_ine kc20; have := q_ine kc24; have := q_ine kc36; have := q_ine kc43; have := congrArg Int32.toInt kc46; have := congrArg Int32.toInt kc55; have := Int32.lt_iff_toInt_lt.mp (Int32.not_le.mp kc59); have := q_ine kc63; have := q_ine kc65; have := vkx4.1; have := vkx4.2; (repeat' split) <;> omega) (Nat.le_of_lt_succ hm17a))
  refine lv_aload_n hx hb dX12_readsAll_0 rfl (lv_at hl 0 rfl) ?_
  refine q_gov hW (q_runV (As := []) (rest := []) hE hW (c_X12_readAsTold l G σ a0 h0) kw_X12_211 (q_recv hE hW h0 rfl q_k12) rfl hl.1 rfl (Nat.le_of_ble_eq_true rfl) dX12_readsAll_1 ⟨by decide, by decide⟩ ⟨by decide, by decide⟩) (by decide) (fun ks71 H locs kp70 kf72 hW => ?_)
  refine lv_aload_n hx hb dX12_readsAll_4 rfl (lv_at hl 0 rfl) ?_
  refine lv_iconst (v := 0) hx hb dX12_readsAll_5 (by decide) ?_
  refine q_puti hE hW h0 rfl q_k12 tyX12 tyX12_ok 12 (by decide) rfl (hE.l wl_351) rfl rfl rfl ((q_c (k := 0) (x := 0) (by decide)).w (by decide) (by decide)) (by decide) dX12_readsAll_6 (fun H locs ks73 kp74 hW => ?_)
  have kh75 : q_at ks73 a0 := q_at0 hW h0 kp74.1
  refine lv_aload_n hx hb dX12_readsAll_9 rfl (lv_at hl 0 rfl) ?_
  refine q_gov hW (q_runV (As := []) (rest := []) hE hW (c_X12_next l G ks73 a0 h0 kh75) kw_X12_163 (q_recv hE hW h0 rfl q_k12) rfl hl.1 rfl (Nat.le_of_ble_eq_true rfl) dX12_readsAll_10 ⟨by decide, by decide⟩ ⟨by decide, by decide⟩) (by decide) (fun ks78 H locs kp77 kf79 hW => ?_)
  refine lv_iconst (v := 1) hx hb dX12_readsAll_13 (by decide) ?_
  refine lv_istore_n (lv' := [(1, .int 1), (0, .ref a0)]) hx hb dX12_readsAll_14 rfl hl (by decide) rfl (fun ls hl => ?_)
  refine lv_iconst (v := 1) hx hb dX12_readsAll_15 (by decide) ?_
  refine lv_istore_n (lv' := [(2, .int 1), (1, .int 1), (0, .ref a0)]) hx hb dX12_readsAll_16 rfl hl (by decide) rfl (fun ls hl => ?_)
  exact lp17a _ _ _ _ 1 ((q_c (k := 1) (x := 1) (by decide)).w (by decide) (by decide)) 1 ((q_c (k := 1) (x := 1) (by decide)).w (by decide) (by decide)) 0 ((q_c (k := 0) (x := 0) (by decide)).w (by decide) (by decide)) (((kp77.2.2.1 26 (by decide)).trans (kp74.2.1 _ _ (Or.inr (by decide)))).trans kp70.1) hW kp77.1 kp77.2.1 (by show (1 : Int32).toInt ≠ 0 → (1 : Int32).toInt ≠ 0 → (0 : Int32).toInt ≤ 19; have := ((q_c (k := 1) (x := 1) (by decide))).1; have := ((q_c (k := 1) (x := 1) (by decide))).2; have := ((q_c (k := 1) (x := 1) (by decide))).1; have := ((q_c (k := 1) (x := 1) (by decide))).2; have := ((q_c (k := 0) (x := 0) (by decide))).1; have := ((q_c (k := 0) (x := 0) (by decide))).2; omega) ls (lv_sub hl [2, 1, 0] rfl) (Nat.lt_succ_self _)
set_option maxHeartbeats 4000000 in
set_option maxRecDepth 100000 in
theorem c_X12_fault (l : Launch) (G : q_G) (σ : q_S) (a0 : Nat) (h0 : q_T G a0 = 40)  : Met l yX12_fault (Cond.code yX12_fault cX12_fault 1 (some .int) :: wsL_law) (q_Rm 8) (q_Pre G σ [.ref a0]) (q_Qi G [40, 48, 49, 50, 51, 52] σ (fun r σ1 => q_V (-2147483648) 2147483647 r)) 0 0 (q_N G) := by
  refine q_ofW (ts := [40, 48, 49, 50, 51, 52]) (by decide) (Nat.le_of_ble_eq_true rfl) ?_
  intro p e s m args below meth c hE hr hlocks hW ls hl
  have hE : q_E G p s m args c cX12_fault 1 RX12 := hE
  have hx := hE.1.1
  have hb := hE.1.2.1
  have hl : lv_has ls 1 [(0, .ref a0)] := hl
  refine lv_aload_n hx hb dX12_fault_0 rfl (lv_at hl 0 rfl) ?_
  refine q_goi hW (q_runV (As := []) (rest := []) hE hW (c_X12_readsAll l G σ a0 h0) kw_X12_217 (q_recv hE hW h0 rfl q_k12) rfl hl.1 rfl (Nat.le_of_ble_eq_true rfl) dX12_fault_1 ⟨by decide, by decide⟩ ⟨by decide, by decide⟩) (by decide) (fun kx4 ks2 H locs kp1 kf3 hW => ?_)
  refine lv_if_eq (tgt := 11) hx hb dX12_fault_4 (by decide) (fun kc5 => ?_) (fun kc5 => ?_)
  · have kv6 : q_V 0 0 kx4 := q_eq1 kp1 (q_c (k := 0) (x := 0) (by decide)) kc5 (by decide) (by decide)
    refine lv_aload_n hx hb dX12_fault_11 rfl (lv_at hl 0 rfl) ?_
    refine q_geti hE hW h0 rfl q_k12 14 (by decide) rfl (hE.l wl_346) dX12_fault_12 (fun kx7 ekx7 vkx7 => ?_)
    exact q_reti hE hr hlocks hW ((vkx7.w (by decide) (by decide))) dX12_fault_15
  · have kv8 : q_V 1 1 kx4 := q_ne1 kp1 (q_c (k := 0) (x := 0) (by decide)) kc5 (by decide)
    refine lv_iconst (v := (-1)) hx hb dX12_fault_7 (by decide) ?_
    refine lv_goto (tgt := 15) hx hb dX12_fault_8 (by decide) ?_
    exact q_reti hE hr hlocks hW (((q_c (k := (-1)) (x := (-1)) (by decide)).w (by decide) (by decide))) dX12_fault_15
set_option maxHeartbeats 4000000 in
set_option maxRecDepth 100000 in
theorem c_X12_summer (l : Launch) (G : q_G) (σ : q_S) (a0 : Nat) (h0 : q_T G a0 = 40)  : Met l yX12_summer (Cond.code yX12_summer cX12_summer 2 (some .int) :: wsL_law) (q_Rm 8) (q_Pre G σ [.ref a0]) (q_Qi G [40, 41, 42, 43, 44, 45, 46, 48, 49, 50, 51, 52, 55, 63] σ (fun r σ1 => q_V (-2147483648) 2147483647 r)) 0 0 (q_N G) := by
  refine q_ofW (ts := [40, 41, 42, 43, 44, 45, 46, 48, 49, 50, 51, 52, 55, 63]) (by decide) (Nat.le_of_ble_eq_true rfl) ?_
  intro p e s m args below meth c hE hr hlocks hW ls hl
  have hE : q_E G p s m args c cX12_summer 2 RX12 := hE
  have hx := hE.1.1
  have hb := hE.1.2.1
  have hl : lv_has ls 2 [(0, .ref a0)] := hl
  have lp120a : ∀ (n120a : Nat) (ks2 : q_S) (H : Heap) (locs : List Loc) (kx1 : Int32) (vkx1 : q_V 0 3 kx1) (hW : q_Wd G [40, 41, 42, 43, 44, 45, 46, 48, 49, 50, 51, 52, 55, 63] σ s.heap ks2 H locs) (ls : Array Slot) (hl : lv_has ls 2 [(0, .ref a0), (1, .int kx1)]), (3 - kx1.toInt).toNat < n120a → W p l e (q_Rm 8) s m args below meth c H locs 0 0 (MQ below (q_Qi G [40, 41, 42, 43, 44, 45, 46, 48, 49, 50, 51, 52, 55, 63] σ (fun r σ1 => q_V (-2147483648) 2147483647 r)) args s 0 0 (q_N G)) (F0 m 120 ls []) := by
    intro n120a
    induction n120a with
    | zero => intro _ _ _ _ _ _ _ _; exact fun h => absurd h (Nat.not_lt_zero _)
    | succ n120a ih120a =>
      intro ks2 H locs kx1 vkx1 hW ls hl hm120a
      refine lv_iload_n hx hb dX12_summer_120 rfl (lv_at hl 1 rfl) ?_
      refine lv_iconst (v := 3) hx hb dX12_summer_121 (by decide) ?_
      refine lv_icmp_ge (tgt := 143) hx hb dX12_summer_122 (by decide) (fun kc3 => ?_) (fun kc3 => ?_)
      · have kv4 : q_V 3 3 kx1 := (q_le2 (q_c (k := 3) (x := 3) (by decide)) vkx1 kc3).w (by decide) (by decide)
        refine lv_aload_n hx hb dX12_summer_143 rfl (lv_at hl 0 rfl) ?_
        refine lv_iconst (v := 0) hx hb dX12_summer_144 (by decide) ?_
        refine q_puti hE hW h0 rfl q_k12 tyX12 tyX12_ok 11 (by decide) rfl (hE.l wl_171) rfl rfl rfl ((q_c (k := 0) (x := 0) (by decide)).w (by decide) (by decide)) (by decide) dX12_summer_145 (fun H locs ks5 kp6 hW => ?_)
        refine lv_aload_n hx hb dX12_summer_148 rfl (lv_at hl 0 rfl) ?_
        refine q_gov hW (q_runV (As := []) (rest := []) hE hW (c_X12_begin l G ks5 a0 h0) kw_X12_226 (q_recv hE hW h0 rfl q_k12) rfl hl.1 rfl (Nat.le_of_ble_eq_true rfl) dX12_summer_149 ⟨by decide, by decide⟩ ⟨by decide, by decide⟩) (by decide) (fun ks8 H locs kp7 kf9 hW => ?_)
        refine lv_aload_n hx hb dX12_summer_152 rfl (lv_at hl 0 rfl) ?_
        refine q_geti hE hW h0 rfl q_k12 26 (by decide) rfl (hE.l wl_353) dX12_summer_153 (fun kx10 ekx10 vkx10 => ?_)
        exact q_reti hE hr hlocks hW ((vkx10.w (by decide) (by decide))) dX12_summer_156
      · have kv11 : q_V 0 2 kx1 := (q_lt1 vkx1 (q_c (k := 3) (x := 3) (by decide)) (Int32.not_le.mp kc3)).w (by decide) (by decide)
        refine lv_aload_n hx hb dX12_summer_125 rfl (lv_at hl 0 rfl) ?_
        refine q_getr hE hW h0 rfl q_k12 6 (by decide) rfl (hE.l wl_133) dX12_summer_126 (fun kb12 ekb12 hkb12a hkb12b => ?_)
        have hkb12 : q_T G kb12 = 45 := q_tag hkb12a hkb12b
        refine lv_iload_n hx hb dX12_summer_129 rfl (lv_at hl 1 rfl) ?_
        refine lv_aload_n hx hb dX12_summer_130 rfl (lv_at hl 0 rfl) ?_
        refine q_getr hE hW h0 rfl q_k12 23 (by decide) rfl (hE.l wl_141) dX12_summer_131 (fun kb13 ekb13 hkb13a hkb13b => ?_)
        have hkb13 : q_T G kb13 = 52 := q_tag hkb13a hkb13b
        refine lv_iload_n hx hb dX12_summer_134 rfl (lv_at hl 1 rfl) ?_
        refine q_iald hE hW hkb13 rfl (q_in kv11 (by decide) (by decide)) dX12_summer_135 (fun kx14 ekx14 gkx14 => ?_)
        refine q_iast hE hW hkb12 rfl (q_in kv11 (by decide) (by decide)) trivial (by decide) dX12_summer_136 (fun H locs ks15 kp16 hW => ?_)
        obtain ⟨kx17, ekx17⟩ : ∃ y : Int32, y = kx1 + 1 := ⟨_, rfl⟩
        have vkx17 : q_V 1 3 kx17 := by rw [ekx17]; exact (q_add kv11 (q_c (k := 1) (x := 1) (by decide)) (by decide) (by decide)).w (by decide) (by decide)
        have ikx17 : kx17.toInt = kx1.toInt + 1 := q_incT ekx17 kv11 (by decide) (by decide) (by decide)
        refine lv_iinc (v := kx17) (lv' := [(1, .int kx17), (0, .ref a0)]) hx hb dX12_summer_137 hl (k := 1) rfl (by rw [ekx17]; rfl) (by decide) rfl (fun ls hl => ?_)
        refine lv_goto (tgt := 120) hx hb dX12_summer_140 (by decide) ?_
        exact ih120a _ _ _ kx17 (vkx17.w (by decide) (by decide)) hW ls (lv_sub hl [1, 0] rfl) (Nat.lt_of_lt_of_le (q_up (ikx17) (show q_V 1 3 kx17 from vkx17).2) (Nat.le_of_lt_succ hm120a))
  have lp94a : ∀ (n94a : Nat) (ks19 : q_S) (H : Heap) (locs : List Loc) (kx18 : Int32) (vkx18 : q_V 0 36 kx18) (hW : q_Wd G [40, 41, 42, 43, 44, 45, 46, 48, 49, 50, 51, 52, 55, 63] σ s.heap ks19 H locs) (ls : Array Slot) (hl : lv_has ls 2 [(0, .ref a0), (1, .int kx18)]), (36 - kx18.toInt).toNat < n94a → W p l e (q_Rm 8) s m args below meth c H locs 0 0 (MQ below (q_Qi G [40, 41, 42, 43, 44, 45, 46, 48, 49, 50, 51, 52, 55, 63] σ (fun r σ1 => q_V (-2147483648) 2147483647 r)) args s 0 0 (q_N G)) (F0 m 94 ls []) := by
    intro n94a
    induction n94a with
    | zero => intro _ _ _ _ _ _ _ _; exact fun h => absurd h (Nat.not_lt_zero _)
    | succ n94a ih94a =>
      intro ks19 H locs kx18 vkx18 hW ls hl hm94a
      refine lv_iload_n hx hb dX12_summer_94 rfl (lv_at hl 1 rfl) ?_
      refine lv_bipush (v := 36) hx hb dX12_summer_95 (by decide) ?_
      refine lv_icmp_ge (tgt := 118) hx hb dX12_summer_97 (by decide) (fun kc20 => ?_) (fun kc20 => ?_)
      · have kv21 : q_V 36 36 kx18 := (q_le2 (q_c (k := 36) (x := 36) (by decide)) vkx18 kc20).w (by decide) (by decide)
        refine lv_iconst (v := 0) hx hb dX12_summer_118 (by decide) ?_
        refine lv_istore_n (lv' := [(1, .int 0), (0, .ref a0)]) hx hb dX12_summer_119 rfl hl (by decide) rfl (fun ls hl => ?_)
        exact lp120a _ _ _ _ 0 ((q_c (k := 0) (x := 0) (by decide)).w (by decide) (by decide)) hW ls (lv_sub hl [1, 0] rfl) (Nat.lt_succ_self _)
      · have kv22 : q_V 0 35 kx18 := (q_lt1 vkx18 (q_c (k := 36) (x := 36) (by decide)) (Int32.not_le.mp kc20)).w (by decide) (by decide)
        refine lv_aload_n hx hb dX12_summer_100 rfl (lv_at hl 0 rfl) ?_
        refine q_getr hE hW h0 rfl q_k12 4 (by decide) rfl (hE.l wl_132) dX12_summer_101 (fun kb23 ekb23 hkb23a hkb23b => ?_)
        have hkb23 : q_T G kb23 = 44 := q_tag hkb23a hkb23b
        refine lv_iload_n hx hb dX12_summer_104 rfl (lv_at hl 1 rfl) ?_
        refine lv_aload_n hx hb dX12_summer_105 rfl (lv_at hl 0 rfl) ?_
        refine q_getr hE hW h0 rfl q_k12 21 (by decide) rfl (hE.l wl_140) dX12_summer_106 (fun kb24 ekb24 hkb24a hkb24b => ?_)
        have hkb24 : q_T G kb24 = 51 := q_tag hkb24a hkb24b
        refine lv_iload_n hx hb dX12_summer_109 rfl (lv_at hl 1 rfl) ?_
        refine q_iald hE hW hkb24 rfl (q_in kv22 (by decide) (by decide)) dX12_summer_110 (fun kx25 ekx25 gkx25 => ?_)
        refine q_iast hE hW hkb23 rfl (q_in kv22 (by decide) (by decide)) trivial (by decide) dX12_summer_111 (fun H locs ks26 kp27 hW => ?_)
        obtain ⟨kx28, ekx28⟩ : ∃ y : Int32, y = kx18 + 1 := ⟨_, rfl⟩
        have vkx28 : q_V 1 36 kx28 := by rw [ekx28]; exact (q_add kv22 (q_c (k := 1) (x := 1) (by decide)) (by decide) (by decide)).w (by decide) (by decide)
        have ikx28 : kx28.toInt = kx18.toInt + 1 := q_incT ekx28 kv22 (by decide) (by decide) (by decide)
        refine lv_iinc (v := kx28) (lv' := [(1, .int kx28), (0, .ref a0)]) hx hb dX12_summer_112 hl (k := 1) rfl (by rw [ekx28]; rfl) (by decide) rfl (fun ls hl => ?_)
        refine lv_goto (tgt := 94) hx hb dX12_summer_115 (by decide) ?_
        exact ih94a _ _ _ kx28 (vkx28.w (by decide) (by decide)) hW ls (lv_sub hl [1, 0] rfl) (Nat.lt_of_lt_of_le (q_up (ikx28) (show q_V 1 36 kx28 from vkx28).2) (Nat.le_of_lt_succ hm94a))
  have lp44a : ∀ (n44a : Nat) (ks30 : q_S) (H : Heap) (locs : List Loc) (kx29 : Int32) (vkx29 : q_V 0 6 kx29) (hW : q_Wd G [40, 41, 42, 43, 44, 45, 46, 48, 49, 50, 51, 52, 55, 63] σ s.heap ks30 H locs) (ls : Array Slot) (hl : lv_has ls 2 [(0, .ref a0), (1, .int kx29)]), (6 - kx29.toInt).toNat < n44a → W p l e (q_Rm 8) s m args below meth c H locs 0 0 (MQ below (q_Qi G [40, 41, 42, 43, 44, 45, 46, 48, 49, 50, 51, 52, 55, 63] σ (fun r σ1 => q_V (-2147483648) 2147483647 r)) args s 0 0 (q_N G)) (F0 m 44 ls []) := by
    intro n44a
    induction n44a with
    | zero => intro _ _ _ _ _ _ _ _; exact fun h => absurd h (Nat.not_lt_zero _)
    | succ n44a ih44a =>
      intro ks30 H locs kx29 vkx29 hW ls hl hm44a
      refine lv_iload_n hx hb dX12_summer_44 rfl (lv_at hl 1 rfl) ?_
      refine lv_bipush (v := 6) hx hb dX12_summer_45 (by decide) ?_
      refine lv_icmp_ge (tgt := 92) hx hb dX12_summer_47 (by decide) (fun kc31 => ?_) (fun kc31 => ?_)
      · have kv32 : q_V 6 6 kx29 := (q_le2 (q_c (k := 6) (x := 6) (by decide)) vkx29 kc31).w (by decide) (by decide)
        refine lv_iconst (v := 0) hx hb dX12_summer_92 (by decide) ?_
        refine lv_istore_n (lv' := [(1, .int 0), (0, .ref a0)]) hx hb dX12_summer_93 rfl hl (by decide) rfl (fun ls hl => ?_)
        exact lp94a _ _ _ _ 0 ((q_c (k := 0) (x := 0) (by decide)).w (by decide) (by decide)) hW ls (lv_sub hl [1, 0] rfl) (Nat.lt_succ_self _)
      · have kv33 : q_V 0 5 kx29 := (q_lt1 vkx29 (q_c (k := 6) (x := 6) (by decide)) (Int32.not_le.mp kc31)).w (by decide) (by decide)
        refine lv_aload_n hx hb dX12_summer_50 rfl (lv_at hl 0 rfl) ?_
        refine q_getr hE hW h0 rfl q_k12 1 (by decide) rfl (hE.l wl_129) dX12_summer_51 (fun kb34 ekb34 hkb34a hkb34b => ?_)
        have hkb34 : q_T G kb34 = 41 := q_tag hkb34a hkb34b
        refine lv_iload_n hx hb dX12_summer_54 rfl (lv_at hl 1 rfl) ?_
        refine lv_aload_n hx hb dX12_summer_55 rfl (lv_at hl 0 rfl) ?_
        refine q_getr hE hW h0 rfl q_k12 18 (by decide) rfl (hE.l wl_137) dX12_summer_56 (fun kb35 ekb35 hkb35a hkb35b => ?_)
        have hkb35 : q_T G kb35 = 48 := q_tag hkb35a hkb35b
        refine lv_iload_n hx hb dX12_summer_59 rfl (lv_at hl 1 rfl) ?_
        refine q_iald hE hW hkb35 rfl (q_in kv33 (by decide) (by decide)) dX12_summer_60 (fun kx36 ekx36 gkx36 => ?_)
        refine q_iast hE hW hkb34 rfl (q_in kv33 (by decide) (by decide)) trivial (by decide) dX12_summer_61 (fun H locs ks37 kp38 hW => ?_)
        refine lv_aload_n hx hb dX12_summer_62 rfl (lv_at hl 0 rfl) ?_
        refine q_getr hE hW h0 rfl q_k12 2 (by decide) rfl (hE.l wl_130) dX12_summer_63 (fun kb39 ekb39 hkb39a hkb39b => ?_)
        have hkb39 : q_T G kb39 = 42 := q_tag hkb39a hkb39b
        refine lv_iload_n hx hb dX12_summer_66 rfl (lv_at hl 1 rfl) ?_
        refine lv_aload_n hx hb dX12_summer_67 rfl (lv_at hl 0 rfl) ?_
        refine q_getr hE hW h0 rfl q_k12 19 (by decide) rfl (hE.l wl_138) dX12_summer_68 (fun kb40 ekb40 hkb40a hkb40b => ?_)
        have hkb40 : q_T G kb40 = 49 := q_tag hkb40a hkb40b
        refine lv_iload_n hx hb dX12_summer_71 rfl (lv_at hl 1 rfl) ?_
        refine q_iald hE hW hkb40 rfl (q_in kv33 (by decide) (by decide)) dX12_summer_72 (fun kx41 ekx41 gkx41 => ?_)
        refine q_iast hE hW hkb39 rfl (q_in kv33 (by decide) (by decide)) trivial (by decide) dX12_summer_73 (fun H locs ks42 kp43 hW => ?_)
        refine lv_aload_n hx hb dX12_summer_74 rfl (lv_at hl 0 rfl) ?_
        refine q_getr hE hW h0 rfl q_k12 3 (by decide) rfl (hE.l wl_131) dX12_summer_75 (fun kb44 ekb44 hkb44a hkb44b => ?_)
        have hkb44 : q_T G kb44 = 43 := q_tag hkb44a hkb44b
        refine lv_iload_n hx hb dX12_summer_78 rfl (lv_at hl 1 rfl) ?_
        refine lv_aload_n hx hb dX12_summer_79 rfl (lv_at hl 0 rfl) ?_
        refine q_getr hE hW h0 rfl q_k12 20 (by decide) rfl (hE.l wl_139) dX12_summer_80 (fun kb45 ekb45 hkb45a hkb45b => ?_)
        have hkb45 : q_T G kb45 = 50 := q_tag hkb45a hkb45b
        refine lv_iload_n hx hb dX12_summer_83 rfl (lv_at hl 1 rfl) ?_
        refine q_iald hE hW hkb45 rfl (q_in kv33 (by decide) (by decide)) dX12_summer_84 (fun kx46 ekx46 gkx46 => ?_)
        refine q_iast hE hW hkb44 rfl (q_in kv33 (by decide) (by decide)) trivial (by decide) dX12_summer_85 (fun H locs ks47 kp48 hW => ?_)
        obtain ⟨kx49, ekx49⟩ : ∃ y : Int32, y = kx29 + 1 := ⟨_, rfl⟩
        have vkx49 : q_V 1 6 kx49 := by rw [ekx49]; exact (q_add kv33 (q_c (k := 1) (x := 1) (by decide)) (by decide) (by decide)).w (by decide) (by decide)
        have ikx49 : kx49.toInt = kx29.toInt + 1 := q_incT ekx49 kv33 (by decide) (by decide) (by decide)
        refine lv_iinc (v := kx49) (lv' := [(1, .int kx49), (0, .ref a0)]) hx hb dX12_summer_86 hl (k := 1) rfl (by rw [ekx49]; rfl) (by decide) rfl (fun ls hl => ?_)
        refine lv_goto (tgt := 44) hx hb dX12_summer_89 (by decide) ?_
        exact ih44a _ _ _ kx49 (vkx49.w (by decide) (by decide)) hW ls (lv_sub hl [1, 0] rfl) (Nat.lt_of_lt_of_le (q_up (ikx49) (show q_V 1 6 kx49 from vkx49).2) (Nat.le_of_lt_succ hm44a))
  refine lv_aload_n hx hb dX12_summer_0 rfl (lv_at hl 0 rfl) ?_
  refine q_goi hW (q_runV (As := []) (rest := []) hE hW (c_X12_readsAll l G σ a0 h0) kw_X12_217 (q_recv hE hW h0 rfl q_k12) rfl hl.1 rfl (Nat.le_of_ble_eq_true rfl) dX12_summer_1 ⟨by decide, by decide⟩ ⟨by decide, by decide⟩) (by decide) (fun kx53 ks51 H locs kp50 kf52 hW => ?_)
  refine lv_if_ne (tgt := 10) hx hb dX12_summer_4 (by decide) (fun kc54 => ?_) (fun kc54 => ?_)
  · have kv55 : q_V 1 1 kx53 := q_ne1 kp50 (q_c (k := 0) (x := 0) (by decide)) kc54 (by decide)
    refine lv_aload_n hx hb dX12_summer_10 rfl (lv_at hl 0 rfl) ?_
    refine lv_aload_n hx hb dX12_summer_11 rfl (lv_at hl 0 rfl) ?_
    refine q_geti hE hW h0 rfl q_k12 17 (by decide) rfl (hE.l wl_359) dX12_summer_12 (fun kx56 ekx56 vkx56 => ?_)
    refine q_puti hE hW h0 rfl q_k12 tyX12 tyX12_ok 0 (by decide) rfl (hE.l wl_358) rfl rfl rfl vkx56 (by decide) dX12_summer_15 (fun H locs ks57 kp58 hW => ?_)
    refine lv_aload_n hx hb dX12_summer_18 rfl (lv_at hl 0 rfl) ?_
    refine lv_aload_n hx hb dX12_summer_19 rfl (lv_at hl 0 rfl) ?_
    refine q_geti hE hW h0 rfl q_k12 22 (by decide) rfl (hE.l wl_361) dX12_summer_20 (fun kx59 ekx59 vkx59 => ?_)
    refine q_puti hE hW h0 rfl q_k12 tyX12 tyX12_ok 5 (by decide) rfl (hE.l wl_360) rfl rfl rfl vkx59 (by decide) dX12_summer_23 (fun H locs ks60 kp61 hW => ?_)
    refine lv_aload_n hx hb dX12_summer_26 rfl (lv_at hl 0 rfl) ?_
    refine lv_aload_n hx hb dX12_summer_27 rfl (lv_at hl 0 rfl) ?_
    refine q_geti hE hW h0 rfl q_k12 24 (by decide) rfl (hE.l wl_363) dX12_summer_28 (fun kx62 ekx62 vkx62 => ?_)
    refine q_puti hE hW h0 rfl q_k12 tyX12 tyX12_ok 7 (by decide) rfl (hE.l wl_362) rfl rfl rfl (q_all kx62) (by decide) dX12_summer_31 (fun H locs ks63 kp64 hW => ?_)
    refine lv_aload_n hx hb dX12_summer_34 rfl (lv_at hl 0 rfl) ?_
    refine lv_aload_n hx hb dX12_summer_35 rfl (lv_at hl 0 rfl) ?_
    refine q_geti hE hW h0 rfl q_k12 25 (by decide) rfl (hE.l wl_364) dX12_summer_36 (fun kx65 ekx65 vkx65 => ?_)
    refine q_puti hE hW h0 rfl q_k12 tyX12 tyX12_ok 8 (by decide) rfl (hE.l wl_134) rfl rfl rfl (q_all kx65) (by decide) dX12_summer_39 (fun H locs ks66 kp67 hW => ?_)
    refine lv_iconst (v := 0) hx hb dX12_summer_42 (by decide) ?_
    refine lv_istore_n (lv' := [(1, .int 0), (0, .ref a0)]) hx hb dX12_summer_43 rfl hl (by decide) rfl (fun ls hl => ?_)
    exact lp44a _ _ _ _ 0 ((q_c (k := 0) (x := 0) (by decide)).w (by decide) (by decide)) hW ls (lv_sub hl [1, 0] rfl) (Nat.lt_succ_self _)
  · have kv68 : q_V 0 0 kx53 := q_eq1 kp50 (q_c (k := 0) (x := 0) (by decide)) kc54 (by decide) (by decide)
    refine lv_bipush (v := (-4)) hx hb dX12_summer_7 (by decide) ?_
    exact q_reti hE hr hlocks hW (((q_c (k := (-4)) (x := (-4)) (by decide)).w (by decide) (by decide))) dX12_summer_9
