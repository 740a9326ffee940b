/-! calls by a kind, super calls, instanceof -/
def q_wA (own C owner : String) (index : Nat) (x y : MethodName) (bytes : ByteArray) (maxL : Nat) (ret : Option FieldType) (n : Nat) : Prop :=
  GoodIn wsL_law (va_wsU own index C owner x y (Cond.code y bytes maxL ret :: wsL_law)) ∧ (owner ≠ "java/lang/invoke/MethodHandle" ∧ owner ≠ "java/lang/invoke/VarHandle" ∧ (parseMethodDescriptor x.desc).map (fun d => d.parameters.length) = some n)
theorem q_goodU {own C owner : String} {idx : Nat} {x y : MethodName} {c0 : Cond} (w1 : Cond.methodLink own idx x ∈ wsL_law) (w2 : Cond.sameMethod x.cls owner x.name x.desc ∈ wsL_law) (w3 : Cond.selects C x y ∈ wsL_law) (w4 : Cond.instanceMethod y ∈ wsL_law) (w5 : Cond.initialized y.cls ∈ wsL_law) (w6 : c0 ∈ wsL_law) : GoodIn wsL_law (va_wsU own idx C owner x y (c0 :: wsL_law)) :=
  q_good (List.forall_mem_append.mpr ⟨List.forall_mem_cons.mpr ⟨w1, List.forall_mem_cons.mpr ⟨w2, List.forall_mem_cons.mpr ⟨w3, List.forall_mem_cons.mpr ⟨w4, List.forall_mem_cons.mpr ⟨w5, fun _ h => absurd h List.not_mem_nil⟩⟩⟩⟩⟩, List.forall_mem_cons.mpr ⟨w6, fun _ z => z⟩⟩)
def q_wU (own : String) (index : Nat) (y : MethodName) (bytes : ByteArray) (maxL : Nat) (ret : Option FieldType) (n : Nat) : Prop :=
  GoodIn wsL_law (va_wsSU own index y (Cond.code y bytes maxL ret :: wsL_law)) ∧ (y.name ≠ "<init>" ∧ (parseMethodDescriptor y.desc).map (fun d => d.parameters.length) = some n)
theorem q_goodSU {own : String} {idx : Nat} {y : MethodName} {c0 : Cond} (w1 : Cond.methodLink own idx y ∈ wsL_law) (w2 : Cond.sameMethod y.cls y.cls y.name y.desc ∈ wsL_law) (w3 : Cond.superclass own y.cls ∈ wsL_law) (w4 : Cond.instanceMethod y ∈ wsL_law) (w5 : Cond.initialized y.cls ∈ wsL_law) (w6 : c0 ∈ wsL_law) : GoodIn wsL_law (va_wsSU own idx y (c0 :: wsL_law)) :=
  q_good (List.forall_mem_append.mpr ⟨List.forall_mem_cons.mpr ⟨w1, List.forall_mem_cons.mpr ⟨w2, List.forall_mem_cons.mpr ⟨w3, List.forall_mem_cons.mpr ⟨w4, List.forall_mem_cons.mpr ⟨w5, fun _ h => absurd h List.not_mem_nil⟩⟩⟩⟩⟩, List.forall_mem_cons.mpr ⟨w6, fun _ z => z⟩⟩)
section QK
variable {p : Program} {l : Launch} {e : Env} {R : Room} {s : State} {m : MethodId} {args : Array Value} {below : List Frame} {meth : Method} {c : Code} {H : Heap} {locs : List Loc} {cells slots : Nat} {Q : State → Prop}
variable {cc bytes : ByteArray} {nL pc d maxL n index : Nat} {own C owner : String} {x y : MethodName} {ret : Option FieldType} {ls : Array Slot} {As rest st0 : List Value} {G : q_G} {σ σ0 : q_S} {H0 : Heap} {ts t1 : List Nat} {a b t : Nat}
theorem q_runA {Qc : Array Value → State → Outcome → State → Prop} (hE : q_E G p s m args c cc nL own) (hW : q_Wd G ts σ0 s.heap σ H locs) (hM : Met l y (Cond.code y bytes maxL ret :: wsL_law) (q_Rm d) (q_Pre G σ (.ref b :: As)) Qc 0 0 (q_N G)) (hw : q_wA own C owner index x y bytes maxL ret n) (hz : va_Nw (.declares ⟨owner, x.name, x.desc⟩) s)
    (hrv : ∃ cell : Cell, H[b]? = some cell ∧ cell.vm.isStatics = false ∧ s.vm.findClass C = some cell.cls) (hn : As.length = n) (hsz : ls.size = nL) (hst : st0 = As.reverse ++ .ref b :: rest) (hrest : (rest.map fun v => v.category).sum ≤ 8) (hdg : decode cc pc = .ok (.invokevirtual index, 3)) (hR : (q_Rm d).frames + 1 ≤ R.frames ∧ 8 + (maxL + 11) + (q_Rm d).locals ≤ R.locals) (hf : cells + 0 ≤ R.cells ∧ slots + 0 ≤ R.slots) :
    va_Run p l e R s m args below meth c H locs cells slots 0 0 (F0 m pc ls st0) rest (Qc (Value.ref b :: As).toArray) (q_N G) :=
  va_runU (nL := nL) hE.1 hM (va_cwA n hE.1.2.2.2.2 hw.1 rfl rfl rfl hz hw.2 hR) ⟨q_blind, hrv, fun U hU hW' => ⟨rfl, by rw [hU]; exact hW.1, hE.2.go hW' hW.2.2 hU⟩⟩ rfl hn hsz hst (lv_room hrest) hdg hf
theorem q_runU {Qc : Array Value → State → Outcome → State → Prop} (hE : q_E G p s m args c cc nL own) (hW : q_Wd G ts σ0 s.heap σ H locs) (hM : Met l y (Cond.code y bytes maxL ret :: wsL_law) (q_Rm d) (q_Pre G σ (.ref b :: As)) Qc 0 0 (q_N G)) (hw : q_wU own index y bytes maxL ret n)
    (ht : q_T G b = t) {ci : Nat} {fs : List (Nat × Int × Int)} (hs : q_sO t = some (ci, fs)) {T : u_T} {N : Nat} (hc : q_cls ci C T N) (hn : As.length = n) (hsz : ls.size = nL) (hst : st0 = As.reverse ++ .ref b :: rest) (hrest : (rest.map fun v => v.category).sum ≤ 8) (hdg : decode cc pc = .ok (.invokespecial index, 3)) (hR : (q_Rm d).frames + 1 ≤ R.frames ∧ 8 + (maxL + 11) + (q_Rm d).locals ≤ R.locals) (hf : cells + 0 ≤ R.cells ∧ slots + 0 ≤ R.slots) :
    va_Run p l e R s m args below meth c H locs cells slots 0 0 (F0 m pc ls st0) rest (Qc (Value.ref b :: As).toArray) (q_N G) :=
  va_runSU (nL := nL) (hE.2.1.1 ci _ hc.1).2 hE.1 hM (va_cwSU n hE.1.2.2.2.2 hw.1 rfl rfl rfl hw.2 hR) ⟨q_blind, q_recv hE hW ht hs hc, fun U hU hW' => ⟨rfl, by rw [hU]; exact hW.1, hE.2.go hW' hW.2.2 hU⟩⟩ rfl hn hsz hst (lv_room hrest) hdg hf
theorem q_kindT {h : Nat} (h1 : (1 : Int) ≤ (h : Int)) (h2 : (h : Int) ≤ 4) : h = 1 ∨ h = 2 ∨ h = 3 ∨ h = 4 := by omega
theorem q_inst1 (hE : q_E G p s m args c cc nL RX11) (hW : q_Wd G ts σ0 H0 σ H locs) (h1 : (1 : Int) ≤ (q_T G b : Int)) (h2 : (q_T G b : Int) ≤ 4) (hdg : decode cc pc = .ok (.instanceof 7, 3))
    (kk : ∀ r : Int32, q_V 0 1 r → W p l e R s m args below meth c H locs cells slots Q (F0 m (pc + 3) ls (.int r :: rest))) : W p l e R s m args below meth c H locs cells slots Q (F0 m pc ls (.ref b :: rest)) := by
  have k1 := kk 1 ⟨by decide, by decide⟩
  have k0 := kk 0 ⟨by decide, by decide⟩
  rcases q_kindT h1 h2 with ht | ht | ht | ht
  · exact va_instS hE.1.1 hE.1.2.1 hE.1.2.2.2.1 (hE.w wl_565) (hE.2.1.1 9 _ q_k10.1).2 (q_recv hE hW ht rfl q_k10) hdg k1
  · exact va_instY hE.1.1 hE.1.2.1 hE.1.2.2.2.1 (hE.w wl_565) (hE.2.2.1.2.2.2.1 ("CloudLaundry$Thunder", "CloudLaundry$White") (List.mem_of_getElem? (i := 0) rfl)) (q_recv hE hW ht rfl q_k9) hdg k1
  · exact va_instY hE.1.1 hE.1.2.1 hE.1.2.2.2.1 (hE.w wl_565) (hE.2.2.1.2.2.2.1 ("CloudLaundry$Fog", "CloudLaundry$White") (List.mem_of_getElem? (i := 1) rfl)) (q_recv hE hW ht rfl q_k3) hdg k1
  · exact va_instNo hE.1.1 hE.1.2.1 hE.1.2.2.2.1 (hE.w wl_565) (hE.2.2.1.2.2.2.2.1 ("CloudLaundry$Bride", "CloudLaundry$White") (List.mem_of_getElem? (i := 0) rfl)) (q_recv hE hW ht rfl q_k0) hdg k0
theorem q_inst2 (hE : q_E G p s m args c cc nL RX11) (hW : q_Wd G ts σ0 H0 σ H locs) (h1 : (1 : Int) ≤ (q_T G b : Int)) (h2 : (q_T G b : Int) ≤ 4) (hdg : decode cc pc = .ok (.instanceof 12, 3))
    (kk : ∀ r : Int32, q_V 0 1 r → W p l e R s m args below meth c H locs cells slots Q (F0 m (pc + 3) ls (.int r :: rest))) : W p l e R s m args below meth c H locs cells slots Q (F0 m pc ls (.ref b :: rest)) := by
  have k1 := kk 1 ⟨by decide, by decide⟩
  have k0 := kk 0 ⟨by decide, by decide⟩
  rcases q_kindT h1 h2 with ht | ht | ht | ht
  · exact va_instNo hE.1.1 hE.1.2.1 hE.1.2.2.2.1 (hE.w wl_566) (hE.2.2.1.2.2.2.2.1 ("CloudLaundry$White", "CloudLaundry$Thunder") (List.mem_of_getElem? (i := 1) rfl)) (q_recv hE hW ht rfl q_k10) hdg k0
  · exact va_instS hE.1.1 hE.1.2.1 hE.1.2.2.2.1 (hE.w wl_566) (hE.2.1.1 8 _ q_k9.1).2 (q_recv hE hW ht rfl q_k9) hdg k1
  · exact va_instNo hE.1.1 hE.1.2.1 hE.1.2.2.2.1 (hE.w wl_566) (hE.2.2.1.2.2.2.2.1 ("CloudLaundry$Fog", "CloudLaundry$Thunder") (List.mem_of_getElem? (i := 2) rfl)) (q_recv hE hW ht rfl q_k3) hdg k0
  · exact va_instNo hE.1.1 hE.1.2.1 hE.1.2.2.2.1 (hE.w wl_566) (hE.2.2.1.2.2.2.2.1 ("CloudLaundry$Bride", "CloudLaundry$Thunder") (List.mem_of_getElem? (i := 3) rfl)) (q_recv hE hW ht rfl q_k0) hdg k0
theorem q_inst3 (hE : q_E G p s m args c cc nL RX11) (hW : q_Wd G ts σ0 H0 σ H locs) (h1 : (1 : Int) ≤ (q_T G b : Int)) (h2 : (q_T G b : Int) ≤ 4) (hdg : decode cc pc = .ok (.instanceof 15, 3))
    (kk : ∀ r : Int32, q_V 0 1 r → W p l e R s m args below meth c H locs cells slots Q (F0 m (pc + 3) ls (.int r :: rest))) : W p l e R s m args below meth c H locs cells slots Q (F0 m pc ls (.ref b :: rest)) := by
  have k1 := kk 1 ⟨by decide, by decide⟩
  have k0 := kk 0 ⟨by decide, by decide⟩
  rcases q_kindT h1 h2 with ht | ht | ht | ht
  · exact va_instNo hE.1.1 hE.1.2.1 hE.1.2.2.2.1 (hE.w wl_567) (hE.2.2.1.2.2.2.2.1 ("CloudLaundry$White", "CloudLaundry$Fog") (List.mem_of_getElem? (i := 4) rfl)) (q_recv hE hW ht rfl q_k10) hdg k0
  · exact va_instNo hE.1.1 hE.1.2.1 hE.1.2.2.2.1 (hE.w wl_567) (hE.2.2.1.2.2.2.2.1 ("CloudLaundry$Thunder", "CloudLaundry$Fog") (List.mem_of_getElem? (i := 5) rfl)) (q_recv hE hW ht rfl q_k9) hdg k0
  · exact va_instS hE.1.1 hE.1.2.1 hE.1.2.2.2.1 (hE.w wl_567) (hE.2.1.1 3 _ q_k3.1).2 (q_recv hE hW ht rfl q_k3) hdg k1
  · exact va_instNo hE.1.1 hE.1.2.1 hE.1.2.2.2.1 (hE.w wl_567) (hE.2.2.1.2.2.2.2.1 ("CloudLaundry$Bride", "CloudLaundry$Fog") (List.mem_of_getElem? (i := 6) rfl)) (q_recv hE hW ht rfl q_k0) hdg k0
theorem q_inst4 (hE : q_E G p s m args c cc nL RX11) (hW : q_Wd G ts σ0 H0 σ H locs) (h1 : (1 : Int) ≤ (q_T G b : Int)) (h2 : (q_T G b : Int) ≤ 4) (hdg : decode cc pc = .ok (.instanceof 18, 3))
    (kk : ∀ r : Int32, q_V 0 1 r → W p l e R s m args below meth c H locs cells slots Q (F0 m (pc + 3) ls (.int r :: rest))) : W p l e R s m args below meth c H locs cells slots Q (F0 m pc ls (.ref b :: rest)) := by
  have k1 := kk 1 ⟨by decide, by decide⟩
  have k0 := kk 0 ⟨by decide, by decide⟩
  rcases q_kindT h1 h2 with ht | ht | ht | ht
  · exact va_instNo hE.1.1 hE.1.2.1 hE.1.2.2.2.1 (hE.w wl_568) (hE.2.2.1.2.2.2.2.1 ("CloudLaundry$White", "CloudLaundry$Bride") (List.mem_of_getElem? (i := 7) rfl)) (q_recv hE hW ht rfl q_k10) hdg k0
  · exact va_instNo hE.1.1 hE.1.2.1 hE.1.2.2.2.1 (hE.w wl_568) (hE.2.2.1.2.2.2.2.1 ("CloudLaundry$Thunder", "CloudLaundry$Bride") (List.mem_of_getElem? (i := 8) rfl)) (q_recv hE hW ht rfl q_k9) hdg k0
  · exact va_instNo hE.1.1 hE.1.2.1 hE.1.2.2.2.1 (hE.w wl_568) (hE.2.2.1.2.2.2.2.1 ("CloudLaundry$Fog", "CloudLaundry$Bride") (List.mem_of_getElem? (i := 9) rfl)) (q_recv hE hW ht rfl q_k3) hdg k0
  · exact va_instS hE.1.1 hE.1.2.1 hE.1.2.2.2.1 (hE.w wl_568) (hE.2.1.1 0 _ q_k0.1).2 (q_recv hE hW ht rfl q_k0) hdg k1
end QK
theorem ku_X9_9 : q_wU RX9 9 yX10_rubs cX10_rubs 2 (some .int) 1 := ⟨q_goodSU wl_584 wl_585 wl_499 wl_575 wl_14 wl_576, by decide, by decide +kernel⟩
theorem ku_X3_9 : q_wU RX3 9 yX10_shrinks cX10_shrinks 1 (some .int) 0 := ⟨q_goodSU wl_686 wl_687 wl_492 wl_688 wl_14 wl_689, by decide, by decide +kernel⟩
theorem ku_X9_19 : q_wU RX9 19 yX10_dries cX10_dries 1 (some .int) 0 := ⟨q_goodSU wl_498 wl_491 wl_499 wl_493 wl_14 wl_494, by decide, by decide +kernel⟩
theorem ku_X3_13 : q_wU RX3 13 yX10_dries cX10_dries 1 (some .int) 0 := ⟨q_goodSU wl_490 wl_491 wl_492 wl_493 wl_14 wl_494, by decide, by decide +kernel⟩
set_option maxHeartbeats 4000000 in
set_option maxRecDepth 100000 in
theorem c_X0_number (l : Launch) (G : q_G) (σ : q_S) (a0 : Nat)  : Met l yX0_number (Cond.code yX0_number cX0_number 1 (some .int) :: wsL_law) (q_Rm 2) (q_Pre G σ [.ref a0]) (q_Qi G [] σ (fun r σ1 => q_V (-2147483648) 2147483647 r)) 0 0 (q_N G) := by
  refine q_ofW (ts := []) (by decide) (Nat.le_of_ble_eq_true rfl) ?_
  intro p e s m args below meth c hE hr hlocks hW ls hl
  have hE : q_E G p s m args c cX0_number 1 RX0 := hE
  have hx := hE.1.1
  have hb := hE.1.2.1
  have hl : lv_has ls 1 [(0, .ref a0)] := hl
  refine lv_iconst (v := 3) hx hb dX0_number_0 (by decide) ?_
  exact q_reti hE hr hlocks hW (((q_c (k := 3) (x := 3) (by decide)).w (by decide) (by decide))) dX0_number_1
set_option maxHeartbeats 4000000 in
set_option maxRecDepth 100000 in
theorem c_X10_number (l : Launch) (G : q_G) (σ : q_S) (a0 : Nat)  : Met l yX10_number (Cond.code yX10_number cX10_number 1 (some .int) :: wsL_law) (q_Rm 2) (q_Pre G σ [.ref a0]) (q_Qi G [] σ (fun r σ1 => q_V (-2147483648) 2147483647 r)) 0 0 (q_N G) := by
  refine q_ofW (ts := []) (by decide) (Nat.le_of_ble_eq_true rfl) ?_
  intro p e s m args below meth c hE hr hlocks hW ls hl
  have hE : q_E G p s m args c cX10_number 1 RX10 := hE
  have hx := hE.1.1
  have hb := hE.1.2.1
  have hl : lv_has ls 1 [(0, .ref a0)] := hl
  refine lv_iconst (v := 0) hx hb dX10_number_0 (by decide) ?_
  exact q_reti hE hr hlocks hW (((q_c (k := 0) (x := 0) (by decide)).w (by decide) (by decide))) dX10_number_1
set_option maxHeartbeats 4000000 in
set_option maxRecDepth 100000 in
theorem c_X9_number (l : Launch) (G : q_G) (σ : q_S) (a0 : Nat) (h0 : q_T G a0 = 2)  : Met l yX9_number (Cond.code yX9_number cX9_number 1 (some .int) :: wsL_law) (q_Rm 2) (q_Pre G σ [.ref a0]) (q_Qi G [] σ (fun r σ1 => q_V (-2147483648) 2147483647 r)) 0 0 (q_N G) := by
  refine q_ofW (ts := []) (by decide) (Nat.le_of_ble_eq_true rfl) ?_
  intro p e s m args below meth c hE hr hlocks hW ls hl
  have hE : q_E G p s m args c cX9_number 1 RX9 := hE
  have hx := hE.1.1
  have hb := hE.1.2.1
  have hl : lv_has ls 1 [(0, .ref a0)] := hl
  refine lv_iconst (v := 1) hx hb dX9_number_0 (by decide) ?_
  exact q_reti hE hr hlocks hW (((q_c (k := 1) (x := 1) (by decide)).w (by decide) (by decide))) dX9_number_1
set_option maxHeartbeats 4000000 in
set_option maxRecDepth 100000 in
theorem c_X3_number (l : Launch) (G : q_G) (σ : q_S) (a0 : Nat) (h0 : q_T G a0 = 3)  : Met l yX3_number (Cond.code yX3_number cX3_number 1 (some .int) :: wsL_law) (q_Rm 2) (q_Pre G σ [.ref a0]) (q_Qi G [] σ (fun r σ1 => q_V (-2147483648) 2147483647 r)) 0 0 (q_N G) := by
  refine q_ofW (ts := []) (by decide) (Nat.le_of_ble_eq_true rfl) ?_
  intro p e s m args below meth c hE hr hlocks hW ls hl
  have hE : q_E G p s m args c cX3_number 1 RX3 := hE
  have hx := hE.1.1
  have hb := hE.1.2.1
  have hl : lv_has ls 1 [(0, .ref a0)] := hl
  refine lv_iconst (v := 2) hx hb dX3_number_0 (by decide) ?_
  exact q_reti hE hr hlocks hW (((q_c (k := 2) (x := 2) (by decide)).w (by decide) (by decide))) dX3_number_1
set_option maxHeartbeats 4000000 in
set_option maxRecDepth 100000 in
theorem c_X0_rubs (l : Launch) (G : q_G) (σ : q_S) (a0 : Nat) (i1 : Int32)  : Met l yX0_rubs (Cond.code yX0_rubs cX0_rubs 2 (some .int) :: wsL_law) (q_Rm 1) (q_Pre G σ [.ref a0, .int i1]) (q_Qi G [] σ (fun r σ1 => q_V (-2147483648) 2147483647 r)) 0 0 (q_N G) := by
  refine q_ofW (ts := []) (by decide) (Nat.le_of_ble_eq_true rfl) ?_
  intro p e s m args below meth c hE hr hlocks hW ls hl
  have hE : q_E G p s m args c cX0_rubs 2 RX0 := hE
  have hx := hE.1.1
  have hb := hE.1.2.1
  have hl : lv_has ls 2 [(0, .ref a0), (1, .int i1)] := hl
  refine lv_iconst (v := 1) hx hb dX0_rubs_0 (by decide) ?_
  exact q_reti hE hr hlocks hW (((q_c (k := 1) (x := 1) (by decide)).w (by decide) (by decide))) dX0_rubs_1
set_option maxHeartbeats 4000000 in
set_option maxRecDepth 100000 in
theorem c_X10_rubs (l : Launch) (G : q_G) (σ : q_S) (a0 : Nat) (i1 : Int32)  : Met l yX10_rubs (Cond.code yX10_rubs cX10_rubs 2 (some .int) :: wsL_law) (q_Rm 1) (q_Pre G σ [.ref a0, .int i1]) (q_Qi G [] σ (fun r σ1 => q_V (-2147483648) 2147483647 r)) 0 0 (q_N G) := by
  refine q_ofW (ts := []) (by decide) (Nat.le_of_ble_eq_true rfl) ?_
  intro p e s m args below meth c hE hr hlocks hW ls hl
  have hE : q_E G p s m args c cX10_rubs 2 RX10 := hE
  have hx := hE.1.1
  have hb := hE.1.2.1
  have hl : lv_has ls 2 [(0, .ref a0), (1, .int i1)] := hl
  refine lv_iload_n hx hb dX10_rubs_0 rfl (lv_at hl 1 rfl) ?_
  exact q_reti hE hr hlocks hW ((q_all i1)) dX10_rubs_1
set_option maxHeartbeats 4000000 in
set_option maxRecDepth 100000 in
theorem c_X0_shrinks (l : Launch) (G : q_G) (σ : q_S) (a0 : Nat)  : Met l yX0_shrinks (Cond.code yX0_shrinks cX0_shrinks 1 (some .int) :: wsL_law) (q_Rm 1) (q_Pre G σ [.ref a0]) (q_Qi G [] σ (fun r σ1 => q_V (-2147483648) 2147483647 r)) 0 0 (q_N G) := by
  refine q_ofW (ts := []) (by decide) (Nat.le_of_ble_eq_true rfl) ?_
  intro p e s m args below meth c hE hr hlocks hW ls hl
  have hE : q_E G p s m args c cX0_shrinks 1 RX0 := hE
  have hx := hE.1.1
  have hb := hE.1.2.1
  have hl : lv_has ls 1 [(0, .ref a0)] := hl
  refine lv_iconst (v := 0) hx hb dX0_shrinks_0 (by decide) ?_
  exact q_reti hE hr hlocks hW (((q_c (k := 0) (x := 0) (by decide)).w (by decide) (by decide))) dX0_shrinks_1
set_option maxHeartbeats 4000000 in
set_option maxRecDepth 100000 in
theorem c_X10_shrinks (l : Launch) (G : q_G) (σ : q_S) (a0 : Nat)  : Met l yX10_shrinks (Cond.code yX10_shrinks cX10_shrinks 1 (some .int) :: wsL_law) (q_Rm 1) (q_Pre G σ [.ref a0]) (q_Qi G [] σ (fun r σ1 => q_V (-2147483648) 2147483647 r)) 0 0 (q_N G) := by
  refine q_ofW (ts := []) (by decide) (Nat.le_of_ble_eq_true rfl) ?_
  intro p e s m args below meth c hE hr hlocks hW ls hl
  have hE : q_E G p s m args c cX10_shrinks 1 RX10 := hE
  have hx := hE.1.1
  have hb := hE.1.2.1
  have hl : lv_has ls 1 [(0, .ref a0)] := hl
  refine lv_iconst (v := 1) hx hb dX10_shrinks_0 (by decide) ?_
  exact q_reti hE hr hlocks hW (((q_c (k := 1) (x := 1) (by decide)).w (by decide) (by decide))) dX10_shrinks_1
set_option maxHeartbeats 4000000 in
set_option maxRecDepth 100000 in
theorem c_X0_dries (l : Launch) (G : q_G) (σ : q_S) (a0 : Nat)  : Met l yX0_dries (Cond.code yX0_dries cX0_dries 1 (some .int) :: wsL_law) (q_Rm 1) (q_Pre G σ [.ref a0]) (q_Qi G [] σ (fun r σ1 => q_V (-2147483648) 2147483647 r)) 0 0 (q_N G) := by
  refine q_ofW (ts := []) (by decide) (Nat.le_of_ble_eq_true rfl) ?_
  intro p e s m args below meth c hE hr hlocks hW ls hl
  have hE : q_E G p s m args c cX0_dries 1 RX0 := hE
  have hx := hE.1.1
  have hb := hE.1.2.1
  have hl : lv_has ls 1 [(0, .ref a0)] := hl
  refine lv_iconst (v := 4) hx hb dX0_dries_0 (by decide) ?_
  exact q_reti hE hr hlocks hW (((q_c (k := 4) (x := 4) (by decide)).w (by decide) (by decide))) dX0_dries_1
set_option maxHeartbeats 4000000 in
set_option maxRecDepth 100000 in
theorem c_X10_dries (l : Launch) (G : q_G) (σ : q_S) (a0 : Nat)  : Met l yX10_dries (Cond.code yX10_dries cX10_dries 1 (some .int) :: wsL_law) (q_Rm 1) (q_Pre G σ [.ref a0]) (q_Qi G [] σ (fun r σ1 => q_V (-2147483648) 2147483647 r)) 0 0 (q_N G) := by
  refine q_ofW (ts := []) (by decide) (Nat.le_of_ble_eq_true rfl) ?_
  intro p e s m args below meth c hE hr hlocks hW ls hl
  have hE : q_E G p s m args c cX10_dries 1 RX10 := hE
  have hx := hE.1.1
  have hb := hE.1.2.1
  have hl : lv_has ls 1 [(0, .ref a0)] := hl
  refine lv_iconst (v := 2) hx hb dX10_dries_0 (by decide) ?_
  exact q_reti hE hr hlocks hW (((q_c (k := 2) (x := 2) (by decide)).w (by decide) (by decide))) dX10_dries_1
set_option maxHeartbeats 4000000 in
set_option maxRecDepth 100000 in
theorem c_X9_rubs (l : Launch) (G : q_G) (σ : q_S) (a0 : Nat) (h0 : q_T G a0 = 2) (i1 : Int32)  : Met l yX9_rubs (Cond.code yX9_rubs cX9_rubs 2 (some .int) :: wsL_law) (q_Rm 2) (q_Pre G σ [.ref a0, .int i1]) (q_Qi G [] σ (fun r σ1 => q_V (-2147483648) 2147483647 r)) 0 0 (q_N G) := by
  refine q_ofW (ts := []) (by decide) (Nat.le_of_ble_eq_true rfl) ?_
  intro p e s m args below meth c hE hr hlocks hW ls hl
  have hE : q_E G p s m args c cX9_rubs 2 RX9 := hE
  have hx := hE.1.1
  have hb := hE.1.2.1
  have hl : lv_has ls 2 [(0, .ref a0), (1, .int i1)] := hl
  refine lv_iconst (v := 1) hx hb dX9_rubs_0 (by decide) ?_
  refine lv_aload_n hx hb dX9_rubs_1 rfl (lv_at hl 0 rfl) ?_
  refine lv_iload_n hx hb dX9_rubs_2 rfl (lv_at hl 1 rfl) ?_
  refine q_goi hW (q_runU (As := [.int i1]) (rest := [.int 1]) hE hW (c_X10_rubs l G σ a0 i1) ku_X9_9 h0 rfl q_k9 rfl hl.1 rfl (Nat.le_of_ble_eq_true rfl) dX9_rubs_3 ⟨by decide, by decide⟩ ⟨by decide, by decide⟩) (by decide) (fun kx4 ks2 H locs kp1 kf3 hW => ?_)
  refine lv_iconst (v := 1) hx hb dX9_rubs_6 (by decide) ?_
  refine lv_isub hx hb dX9_rubs_7 ?_
  refine lv_topi (fun kx5 ekx5 => ?_)
  refine va_mmax hx hb (hE.1.2.2.1.trans hl.1.symm) hE.1.2.2.2.1 (hE.w wl_580) (hE.w wl_581) (hE.w wl_582) (hE.w wl_583) (by decide) (Nat.le_of_ble_eq_true rfl) (by decide) (by decide) dX9_rubs_8 ?_
  refine lv_topi (fun kx6 ekx6 => ?_)
  have vkx6 : q_V 1 2147483647 kx6 := q_maxV (q_c (k := 1) (x := 1) (by decide)) (q_all kx5) ekx6 (by decide) (by decide)
  exact q_reti hE hr hlocks hW ((vkx6.w (by decide) (by decide))) dX9_rubs_11
set_option maxHeartbeats 4000000 in
set_option maxRecDepth 100000 in
theorem c_X3_shrinks (l : Launch) (G : q_G) (σ : q_S) (a0 : Nat) (h0 : q_T G a0 = 3)  : Met l yX3_shrinks (Cond.code yX3_shrinks cX3_shrinks 1 (some .int) :: wsL_law) (q_Rm 2) (q_Pre G σ [.ref a0]) (q_Qi G [] σ (fun r σ1 => q_V (-2147483648) 2147483647 r)) 0 0 (q_N G) := by
  refine q_ofW (ts := []) (by decide) (Nat.le_of_ble_eq_true rfl) ?_
  intro p e s m args below meth c hE hr hlocks hW ls hl
  have hE : q_E G p s m args c cX3_shrinks 1 RX3 := hE
  have hx := hE.1.1
  have hb := hE.1.2.1
  have hl : lv_has ls 1 [(0, .ref a0)] := hl
  refine lv_iconst (v := 2) hx hb dX3_shrinks_0 (by decide) ?_
  refine lv_aload_n hx hb dX3_shrinks_1 rfl (lv_at hl 0 rfl) ?_
  refine q_goi hW (q_runU (As := []) (rest := [.int 2]) hE hW (c_X10_shrinks l G σ a0) ku_X3_9 h0 rfl q_k3 rfl hl.1 rfl (Nat.le_of_ble_eq_true rfl) dX3_shrinks_2 ⟨by decide, by decide⟩ ⟨by decide, by decide⟩) (by decide) (fun kx4 ks2 H locs kp1 kf3 hW => ?_)
  refine lv_imul hx hb dX3_shrinks_5 ?_
  refine lv_topi (fun kx5 ekx5 => ?_)
  exact q_reti hE hr hlocks hW ((q_all kx5)) dX3_shrinks_6
set_option maxHeartbeats 4000000 in
set_option maxRecDepth 100000 in
theorem c_X9_dries (l : Launch) (G : q_G) (σ : q_S) (a0 : Nat) (h0 : q_T G a0 = 2)  : Met l yX9_dries (Cond.code yX9_dries cX9_dries 1 (some .int) :: wsL_law) (q_Rm 2) (q_Pre G σ [.ref a0]) (q_Qi G [] σ (fun r σ1 => q_V (-2147483648) 2147483647 r)) 0 0 (q_N G) := by
  refine q_ofW (ts := []) (by decide) (Nat.le_of_ble_eq_true rfl) ?_
  intro p e s m args below meth c hE hr hlocks hW ls hl
  have hE : q_E G p s m args c cX9_dries 1 RX9 := hE
  have hx := hE.1.1
  have hb := hE.1.2.1
  have hl : lv_has ls 1 [(0, .ref a0)] := hl
  refine lv_aload_n hx hb dX9_dries_0 rfl (lv_at hl 0 rfl) ?_
  refine q_goi hW (q_runU (As := []) (rest := []) hE hW (c_X10_dries l G σ a0) ku_X9_19 h0 rfl q_k9 rfl hl.1 rfl (Nat.le_of_ble_eq_true rfl) dX9_dries_1 ⟨by decide, by decide⟩ ⟨by decide, by decide⟩) (by decide) (fun kx4 ks2 H locs kp1 kf3 hW => ?_)
  refine lv_iconst (v := 1) hx hb dX9_dries_4 (by decide) ?_
  refine lv_iadd hx hb dX9_dries_5 ?_
  refine lv_topi (fun kx5 ekx5 => ?_)
  exact q_reti hE hr hlocks hW ((q_all kx5)) dX9_dries_6
set_option maxHeartbeats 4000000 in
set_option maxRecDepth 100000 in
theorem c_X3_dries (l : Launch) (G : q_G) (σ : q_S) (a0 : Nat) (h0 : q_T G a0 = 3)  : Met l yX3_dries (Cond.code yX3_dries cX3_dries 1 (some .int) :: wsL_law) (q_Rm 2) (q_Pre G σ [.ref a0]) (q_Qi G [] σ (fun r σ1 => q_V (-2147483648) 2147483647 r)) 0 0 (q_N G) := by
  refine q_ofW (ts := []) (by decide) (Nat.le_of_ble_eq_true rfl) ?_
  intro p e s m args below meth c hE hr hlocks hW ls hl
  have hE : q_E G p s m args c cX3_dries 1 RX3 := hE
  have hx := hE.1.1
  have hb := hE.1.2.1
  have hl : lv_has ls 1 [(0, .ref a0)] := hl
  refine lv_aload_n hx hb dX3_dries_0 rfl (lv_at hl 0 rfl) ?_
  refine q_goi hW (q_runU (As := []) (rest := []) hE hW (c_X10_dries l G σ a0) ku_X3_13 h0 rfl q_k3 rfl hl.1 rfl (Nat.le_of_ble_eq_true rfl) dX3_dries_1 ⟨by decide, by decide⟩ ⟨by decide, by decide⟩) (by decide) (fun kx4 ks2 H locs kp1 kf3 hW => ?_)
  refine lv_iconst (v := 1) hx hb dX3_dries_4 (by decide) ?_
  refine lv_isub hx hb dX3_dries_5 ?_
  refine lv_topi (fun kx5 ekx5 => ?_)
  exact q_reti hE hr hlocks hW ((q_all kx5)) dX3_dries_6
theorem ka_X11_147_1 : q_wA RX11 RX10 "CloudLaundry$Kind" 147 ⟨"CloudLaundry$Kind", "number", "()I"⟩ yX10_number cX10_number 1 (some .int) 0 := ⟨q_goodU wl_452 wl_453 wl_463 wl_464 wl_14 wl_465, by decide, by decide, by decide +kernel⟩
theorem ka_X11_147_2 : q_wA RX11 RX9 "CloudLaundry$Kind" 147 ⟨"CloudLaundry$Kind", "number", "()I"⟩ yX9_number cX9_number 1 (some .int) 0 := ⟨q_goodU wl_452 wl_453 wl_460 wl_461 wl_18 wl_462, by decide, by decide, by decide +kernel⟩
theorem ka_X11_147_3 : q_wA RX11 RX3 "CloudLaundry$Kind" 147 ⟨"CloudLaundry$Kind", "number", "()I"⟩ yX3_number cX3_number 1 (some .int) 0 := ⟨q_goodU wl_452 wl_453 wl_457 wl_458 wl_21 wl_459, by decide, by decide, by decide +kernel⟩
theorem ka_X11_147_4 : q_wA RX11 RX0 "CloudLaundry$Kind" 147 ⟨"CloudLaundry$Kind", "number", "()I"⟩ yX0_number cX0_number 1 (some .int) 0 := ⟨q_goodU wl_452 wl_453 wl_454 wl_455 wl_24 wl_456, by decide, by decide, by decide +kernel⟩
theorem kd_X11_147 {p : Program} (l : Launch) {e : Env} {R : Room} {s : State} {m : MethodId} {args : Array Value} {below : List Frame} {meth : Method} {c : Code} {H : Heap} {locs : List Loc} {cells slots : Nat} {cc : ByteArray} {nL pc : Nat} {ls : Array Slot} {rest st0 : List Value} {G : q_G} {σ σ0 : q_S} {ts : List Nat} {b : Nat} (hE : q_E G p s m args c cc nL RX11) (hW : q_Wd G ts σ0 s.heap σ H locs) (h1 : (1 : Int) ≤ (q_T G b : Int)) (h2 : (q_T G b : Int) ≤ 4) (hsz : ls.size = nL) (hst : st0 = ([] : List Value).reverse ++ .ref b :: rest) (hrest : (rest.map fun v => v.category).sum ≤ 8) (hdg : decode cc pc = .ok (.invokevirtual 147, 3)) (hR : 3 ≤ R.frames ∧ 120 ≤ R.locals) (hf : cells + 0 ≤ R.cells ∧ slots + 0 ≤ R.slots) :
    va_Run p l e R s m args below meth c H locs cells slots 0 0 (F0 m pc ls st0) rest (q_Qi G [] σ (fun r σ1 => q_V (-2147483648) 2147483647 r) (Value.ref b :: []).toArray) (q_N G) := by
  have hz := hE.2.2.1.2.2.1 ⟨"CloudLaundry$Kind", "number", "()I"⟩ (List.mem_of_getElem? (i := 0) rfl)
  rcases q_kindT h1 h2 with ht | ht | ht | ht
  · exact q_runA (As := []) hE hW (c_X10_number l G σ b) ka_X11_147_1 hz (q_recv hE hW ht rfl q_k10) rfl hsz hst hrest hdg ⟨Nat.le_trans (by decide) hR.1, Nat.le_trans (by decide) hR.2⟩ hf
  · exact q_runA (As := []) hE hW (c_X9_number l G σ b ht) ka_X11_147_2 hz (q_recv hE hW ht rfl q_k9) rfl hsz hst hrest hdg ⟨Nat.le_trans (by decide) hR.1, Nat.le_trans (by decide) hR.2⟩ hf
  · exact q_runA (As := []) hE hW (c_X3_number l G σ b ht) ka_X11_147_3 hz (q_recv hE hW ht rfl q_k3) rfl hsz hst hrest hdg ⟨Nat.le_trans (by decide) hR.1, Nat.le_trans (by decide) hR.2⟩ hf
  · exact q_runA (As := []) hE hW (c_X0_number l G σ b) ka_X11_147_4 hz (q_recv hE hW ht rfl q_k0) rfl hsz hst hrest hdg ⟨Nat.le_trans (by decide) hR.1, Nat.le_trans (by decide) hR.2⟩ hf
theorem ka_X1_48_1 : q_wA RX1 RX10 "CloudLaundry$Kind" 48 ⟨"CloudLaundry$Kind", "dries", "()I"⟩ yX10_dries cX10_dries 1 (some .int) 0 := ⟨q_goodU wl_482 wl_483 wl_500 wl_493 wl_14 wl_494, by decide, by decide, by decide +kernel⟩
theorem ka_X1_48_2 : q_wA RX1 RX9 "CloudLaundry$Kind" 48 ⟨"CloudLaundry$Kind", "dries", "()I"⟩ yX9_dries cX9_dries 1 (some .int) 0 := ⟨q_goodU wl_482 wl_483 wl_495 wl_496 wl_18 wl_497, by decide, by decide, by decide +kernel⟩
theorem ka_X1_48_3 : q_wA RX1 RX3 "CloudLaundry$Kind" 48 ⟨"CloudLaundry$Kind", "dries", "()I"⟩ yX3_dries cX3_dries 1 (some .int) 0 := ⟨q_goodU wl_482 wl_483 wl_487 wl_488 wl_21 wl_489, by decide, by decide, by decide +kernel⟩
theorem ka_X1_48_4 : q_wA RX1 RX0 "CloudLaundry$Kind" 48 ⟨"CloudLaundry$Kind", "dries", "()I"⟩ yX0_dries cX0_dries 1 (some .int) 0 := ⟨q_goodU wl_482 wl_483 wl_484 wl_485 wl_24 wl_486, by decide, by decide, by decide +kernel⟩
theorem kd_X1_48 {p : Program} (l : Launch) {e : Env} {R : Room} {s : State} {m : MethodId} {args : Array Value} {below : List Frame} {meth : Method} {c : Code} {H : Heap} {locs : List Loc} {cells slots : Nat} {cc : ByteArray} {nL pc : Nat} {ls : Array Slot} {rest st0 : List Value} {G : q_G} {σ σ0 : q_S} {ts : List Nat} {b : Nat} (hE : q_E G p s m args c cc nL RX1) (hW : q_Wd G ts σ0 s.heap σ H locs) (h1 : (1 : Int) ≤ (q_T G b : Int)) (h2 : (q_T G b : Int) ≤ 4) (hsz : ls.size = nL) (hst : st0 = ([] : List Value).reverse ++ .ref b :: rest) (hrest : (rest.map fun v => v.category).sum ≤ 8) (hdg : decode cc pc = .ok (.invokevirtual 48, 3)) (hR : 3 ≤ R.frames ∧ 120 ≤ R.locals) (hf : cells + 0 ≤ R.cells ∧ slots + 0 ≤ R.slots) :
    va_Run p l e R s m args below meth c H locs cells slots 0 0 (F0 m pc ls st0) rest (q_Qi G [] σ (fun r σ1 => q_V (-2147483648) 2147483647 r) (Value.ref b :: []).toArray) (q_N G) := by
  have hz := hE.2.2.1.2.2.1 ⟨"CloudLaundry$Kind", "dries", "()I"⟩ (List.mem_of_getElem? (i := 4) rfl)
  rcases q_kindT h1 h2 with ht | ht | ht | ht
  · exact q_runA (As := []) hE hW (c_X10_dries l G σ b) ka_X1_48_1 hz (q_recv hE hW ht rfl q_k10) rfl hsz hst hrest hdg ⟨Nat.le_trans (by decide) hR.1, Nat.le_trans (by decide) hR.2⟩ hf
  · exact q_runA (As := []) hE hW (c_X9_dries l G σ b ht) ka_X1_48_2 hz (q_recv hE hW ht rfl q_k9) rfl hsz hst hrest hdg ⟨Nat.le_trans (by decide) hR.1, Nat.le_trans (by decide) hR.2⟩ hf
  · exact q_runA (As := []) hE hW (c_X3_dries l G σ b ht) ka_X1_48_3 hz (q_recv hE hW ht rfl q_k3) rfl hsz hst hrest hdg ⟨Nat.le_trans (by decide) hR.1, Nat.le_trans (by decide) hR.2⟩ hf
  · exact q_runA (As := []) hE hW (c_X0_dries l G σ b) ka_X1_48_4 hz (q_recv hE hW ht rfl q_k0) rfl hsz hst hrest hdg ⟨Nat.le_trans (by decide) hR.1, Nat.le_trans (by decide) hR.2⟩ hf
theorem ka_X11_195_1 : q_wA RX11 RX10 "CloudLaundry$Kind" 195 ⟨"CloudLaundry$Kind", "rubs", "(I)I"⟩ yX10_rubs cX10_rubs 2 (some .int) 1 := ⟨q_goodU wl_569 wl_570 wl_586 wl_575 wl_14 wl_576, by decide, by decide, by decide +kernel⟩
theorem ka_X11_195_2 : q_wA RX11 RX9 "CloudLaundry$Kind" 195 ⟨"CloudLaundry$Kind", "rubs", "(I)I"⟩ yX9_rubs cX9_rubs 2 (some .int) 1 := ⟨q_goodU wl_569 wl_570 wl_577 wl_578 wl_18 wl_579, by decide, by decide, by decide +kernel⟩
theorem ka_X11_195_3 : q_wA RX11 RX3 "CloudLaundry$Kind" 195 ⟨"CloudLaundry$Kind", "rubs", "(I)I"⟩ yX10_rubs cX10_rubs 2 (some .int) 1 := ⟨q_goodU wl_569 wl_570 wl_574 wl_575 wl_14 wl_576, by decide, by decide, by decide +kernel⟩
theorem ka_X11_195_4 : q_wA RX11 RX0 "CloudLaundry$Kind" 195 ⟨"CloudLaundry$Kind", "rubs", "(I)I"⟩ yX0_rubs cX0_rubs 2 (some .int) 1 := ⟨q_goodU wl_569 wl_570 wl_571 wl_572 wl_24 wl_573, by decide, by decide, by decide +kernel⟩
theorem kd_X11_195 {p : Program} (l : Launch) {e : Env} {R : Room} {s : State} {m : MethodId} {args : Array Value} {below : List Frame} {meth : Method} {c : Code} {H : Heap} {locs : List Loc} {cells slots : Nat} {cc : ByteArray} {nL pc : Nat} {ls : Array Slot} {rest st0 : List Value} {G : q_G} {σ σ0 : q_S} {ts : List Nat} {b : Nat} (h : Int32) (hE : q_E G p s m args c cc nL RX11) (hW : q_Wd G ts σ0 s.heap σ H locs) (h1 : (1 : Int) ≤ (q_T G b : Int)) (h2 : (q_T G b : Int) ≤ 4) (hsz : ls.size = nL) (hst : st0 = ([.int h] : List Value).reverse ++ .ref b :: rest) (hrest : (rest.map fun v => v.category).sum ≤ 8) (hdg : decode cc pc = .ok (.invokevirtual 195, 3)) (hR : 3 ≤ R.frames ∧ 120 ≤ R.locals) (hf : cells + 0 ≤ R.cells ∧ slots + 0 ≤ R.slots) :
    va_Run p l e R s m args below meth c H locs cells slots 0 0 (F0 m pc ls st0) rest (q_Qi G [] σ (fun r σ1 => q_V (-2147483648) 2147483647 r) (Value.ref b :: [.int h]).toArray) (q_N G) := by
  have hz := hE.2.2.1.2.2.1 ⟨"CloudLaundry$Kind", "rubs", "(I)I"⟩ (List.mem_of_getElem? (i := 2) rfl)
  rcases q_kindT h1 h2 with ht | ht | ht | ht
  · exact q_runA (As := [.int h]) hE hW (c_X10_rubs l G σ b h) ka_X11_195_1 hz (q_recv hE hW ht rfl q_k10) rfl hsz hst hrest hdg ⟨Nat.le_trans (by decide) hR.1, Nat.le_trans (by decide) hR.2⟩ hf
  · exact q_runA (As := [.int h]) hE hW (c_X9_rubs l G σ b ht h) ka_X11_195_2 hz (q_recv hE hW ht rfl q_k9) rfl hsz hst hrest hdg ⟨Nat.le_trans (by decide) hR.1, Nat.le_trans (by decide) hR.2⟩ hf
  · exact q_runA (As := [.int h]) hE hW (c_X10_rubs l G σ b h) ka_X11_195_3 hz (q_recv hE hW ht rfl q_k3) rfl hsz hst hrest hdg ⟨Nat.le_trans (by decide) hR.1, Nat.le_trans (by decide) hR.2⟩ hf
  · exact q_runA (As := [.int h]) hE hW (c_X0_rubs l G σ b h) ka_X11_195_4 hz (q_recv hE hW ht rfl q_k0) rfl hsz hst hrest hdg ⟨Nat.le_trans (by decide) hR.1, Nat.le_trans (by decide) hR.2⟩ hf
theorem ka_X2_93_1 : q_wA RX2 RX10 "CloudLaundry$Kind" 93 ⟨"CloudLaundry$Kind", "rubs", "(I)I"⟩ yX10_rubs cX10_rubs 2 (some .int) 1 := ⟨q_goodU wl_669 wl_570 wl_586 wl_575 wl_14 wl_576, by decide, by decide, by decide +kernel⟩
theorem ka_X2_93_2 : q_wA RX2 RX9 "CloudLaundry$Kind" 93 ⟨"CloudLaundry$Kind", "rubs", "(I)I"⟩ yX9_rubs cX9_rubs 2 (some .int) 1 := ⟨q_goodU wl_669 wl_570 wl_577 wl_578 wl_18 wl_579, by decide, by decide, by decide +kernel⟩
theorem ka_X2_93_3 : q_wA RX2 RX3 "CloudLaundry$Kind" 93 ⟨"CloudLaundry$Kind", "rubs", "(I)I"⟩ yX10_rubs cX10_rubs 2 (some .int) 1 := ⟨q_goodU wl_669 wl_570 wl_574 wl_575 wl_14 wl_576, by decide, by decide, by decide +kernel⟩
theorem ka_X2_93_4 : q_wA RX2 RX0 "CloudLaundry$Kind" 93 ⟨"CloudLaundry$Kind", "rubs", "(I)I"⟩ yX0_rubs cX0_rubs 2 (some .int) 1 := ⟨q_goodU wl_669 wl_570 wl_571 wl_572 wl_24 wl_573, by decide, by decide, by decide +kernel⟩
theorem kd_X2_93 {p : Program} (l : Launch) {e : Env} {R : Room} {s : State} {m : MethodId} {args : Array Value} {below : List Frame} {meth : Method} {c : Code} {H : Heap} {locs : List Loc} {cells slots : Nat} {cc : ByteArray} {nL pc : Nat} {ls : Array Slot} {rest st0 : List Value} {G : q_G} {σ σ0 : q_S} {ts : List Nat} {b : Nat} (h : Int32) (hE : q_E G p s m args c cc nL RX2) (hW : q_Wd G ts σ0 s.heap σ H locs) (h1 : (1 : Int) ≤ (q_T G b : Int)) (h2 : (q_T G b : Int) ≤ 4) (hsz : ls.size = nL) (hst : st0 = ([.int h] : List Value).reverse ++ .ref b :: rest) (hrest : (rest.map fun v => v.category).sum ≤ 8) (hdg : decode cc pc = .ok (.invokevirtual 93, 3)) (hR : 3 ≤ R.frames ∧ 120 ≤ R.locals) (hf : cells + 0 ≤ R.cells ∧ slots + 0 ≤ R.slots) :
    va_Run p l e R s m args below meth c H locs cells slots 0 0 (F0 m pc ls st0) rest (q_Qi G [] σ (fun r σ1 => q_V (-2147483648) 2147483647 r) (Value.ref b :: [.int h]).toArray) (q_N G) := by
  have hz := hE.2.2.1.2.2.1 ⟨"CloudLaundry$Kind", "rubs", "(I)I"⟩ (List.mem_of_getElem? (i := 2) rfl)
  rcases q_kindT h1 h2 with ht | ht | ht | ht
  · exact q_runA (As := [.int h]) hE hW (c_X10_rubs l G σ b h) ka_X2_93_1 hz (q_recv hE hW ht rfl q_k10) rfl hsz hst hrest hdg ⟨Nat.le_trans (by decide) hR.1, Nat.le_trans (by decide) hR.2⟩ hf
  · exact q_runA (As := [.int h]) hE hW (c_X9_rubs l G σ b ht h) ka_X2_93_2 hz (q_recv hE hW ht rfl q_k9) rfl hsz hst hrest hdg ⟨Nat.le_trans (by decide) hR.1, Nat.le_trans (by decide) hR.2⟩ hf
  · exact q_runA (As := [.int h]) hE hW (c_X10_rubs l G σ b h) ka_X2_93_3 hz (q_recv hE hW ht rfl q_k3) rfl hsz hst hrest hdg ⟨Nat.le_trans (by decide) hR.1, Nat.le_trans (by decide) hR.2⟩ hf
  · exact q_runA (As := [.int h]) hE hW (c_X0_rubs l G σ b h) ka_X2_93_4 hz (q_recv hE hW ht rfl q_k0) rfl hsz hst hrest hdg ⟨Nat.le_trans (by decide) hR.1, Nat.le_trans (by decide) hR.2⟩ hf
theorem ka_X2_105_1 : q_wA RX2 RX10 "CloudLaundry$Kind" 105 ⟨"CloudLaundry$Kind", "shrinks", "()I"⟩ yX10_shrinks cX10_shrinks 1 (some .int) 0 := ⟨q_goodU wl_678 wl_679 wl_691 wl_688 wl_14 wl_689, by decide, by decide, by decide +kernel⟩
theorem ka_X2_105_2 : q_wA RX2 RX9 "CloudLaundry$Kind" 105 ⟨"CloudLaundry$Kind", "shrinks", "()I"⟩ yX10_shrinks cX10_shrinks 1 (some .int) 0 := ⟨q_goodU wl_678 wl_679 wl_690 wl_688 wl_14 wl_689, by decide, by decide, by decide +kernel⟩
theorem ka_X2_105_3 : q_wA RX2 RX3 "CloudLaundry$Kind" 105 ⟨"CloudLaundry$Kind", "shrinks", "()I"⟩ yX3_shrinks cX3_shrinks 1 (some .int) 0 := ⟨q_goodU wl_678 wl_679 wl_683 wl_684 wl_21 wl_685, by decide, by decide, by decide +kernel⟩
theorem ka_X2_105_4 : q_wA RX2 RX0 "CloudLaundry$Kind" 105 ⟨"CloudLaundry$Kind", "shrinks", "()I"⟩ yX0_shrinks cX0_shrinks 1 (some .int) 0 := ⟨q_goodU wl_678 wl_679 wl_680 wl_681 wl_24 wl_682, by decide, by decide, by decide +kernel⟩
theorem kd_X2_105 {p : Program} (l : Launch) {e : Env} {R : Room} {s : State} {m : MethodId} {args : Array Value} {below : List Frame} {meth : Method} {c : Code} {H : Heap} {locs : List Loc} {cells slots : Nat} {cc : ByteArray} {nL pc : Nat} {ls : Array Slot} {rest st0 : List Value} {G : q_G} {σ σ0 : q_S} {ts : List Nat} {b : Nat} (hE : q_E G p s m args c cc nL RX2) (hW : q_Wd G ts σ0 s.heap σ H locs) (h1 : (1 : Int) ≤ (q_T G b : Int)) (h2 : (q_T G b : Int) ≤ 4) (hsz : ls.size = nL) (hst : st0 = ([] : List Value).reverse ++ .ref b :: rest) (hrest : (rest.map fun v => v.category).sum ≤ 8) (hdg : decode cc pc = .ok (.invokevirtual 105, 3)) (hR : 3 ≤ R.frames ∧ 120 ≤ R.locals) (hf : cells + 0 ≤ R.cells ∧ slots + 0 ≤ R.slots) :
    va_Run p l e R s m args below meth c H locs cells slots 0 0 (F0 m pc ls st0) rest (q_Qi G [] σ (fun r σ1 => q_V (-2147483648) 2147483647 r) (Value.ref b :: []).toArray) (q_N G) := by
  have hz := hE.2.2.1.2.2.1 ⟨"CloudLaundry$Kind", "shrinks", "()I"⟩ (List.mem_of_getElem? (i := 3) rfl)
  rcases q_kindT h1 h2 with ht | ht | ht | ht
  · exact q_runA (As := []) hE hW (c_X10_shrinks l G σ b) ka_X2_105_1 hz (q_recv hE hW ht rfl q_k10) rfl hsz hst hrest hdg ⟨Nat.le_trans (by decide) hR.1, Nat.le_trans (by decide) hR.2⟩ hf
  · exact q_runA (As := []) hE hW (c_X10_shrinks l G σ b) ka_X2_105_2 hz (q_recv hE hW ht rfl q_k9) rfl hsz hst hrest hdg ⟨Nat.le_trans (by decide) hR.1, Nat.le_trans (by decide) hR.2⟩ hf
  · exact q_runA (As := []) hE hW (c_X3_shrinks l G σ b ht) ka_X2_105_3 hz (q_recv hE hW ht rfl q_k3) rfl hsz hst hrest hdg ⟨Nat.le_trans (by decide) hR.1, Nat.le_trans (by decide) hR.2⟩ hf
  · exact q_runA (As := []) hE hW (c_X0_shrinks l G σ b) ka_X2_105_4 hz (q_recv hE hW ht rfl q_k0) rfl hsz hst hrest hdg ⟨Nat.le_trans (by decide) hR.1, Nat.le_trans (by decide) hR.2⟩ hf
theorem ka_X1_53_1 : q_wA RX1 RX10 "CloudLaundry$Kind" 53 ⟨"CloudLaundry$Kind", "rubs", "(I)I"⟩ yX10_rubs cX10_rubs 2 (some .int) 1 := ⟨q_goodU wl_753 wl_570 wl_586 wl_575 wl_14 wl_576, by decide, by decide, by decide +kernel⟩
theorem ka_X1_53_2 : q_wA RX1 RX9 "CloudLaundry$Kind" 53 ⟨"CloudLaundry$Kind", "rubs", "(I)I"⟩ yX9_rubs cX9_rubs 2 (some .int) 1 := ⟨q_goodU wl_753 wl_570 wl_577 wl_578 wl_18 wl_579, by decide, by decide, by decide +kernel⟩
theorem ka_X1_53_3 : q_wA RX1 RX3 "CloudLaundry$Kind" 53 ⟨"CloudLaundry$Kind", "rubs", "(I)I"⟩ yX10_rubs cX10_rubs 2 (some .int) 1 := ⟨q_goodU wl_753 wl_570 wl_574 wl_575 wl_14 wl_576, by decide, by decide, by decide +kernel⟩
theorem ka_X1_53_4 : q_wA RX1 RX0 "CloudLaundry$Kind" 53 ⟨"CloudLaundry$Kind", "rubs", "(I)I"⟩ yX0_rubs cX0_rubs 2 (some .int) 1 := ⟨q_goodU wl_753 wl_570 wl_571 wl_572 wl_24 wl_573, by decide, by decide, by decide +kernel⟩
theorem kd_X1_53 {p : Program} (l : Launch) {e : Env} {R : Room} {s : State} {m : MethodId} {args : Array Value} {below : List Frame} {meth : Method} {c : Code} {H : Heap} {locs : List Loc} {cells slots : Nat} {cc : ByteArray} {nL pc : Nat} {ls : Array Slot} {rest st0 : List Value} {G : q_G} {σ σ0 : q_S} {ts : List Nat} {b : Nat} (h : Int32) (hE : q_E G p s m args c cc nL RX1) (hW : q_Wd G ts σ0 s.heap σ H locs) (h1 : (1 : Int) ≤ (q_T G b : Int)) (h2 : (q_T G b : Int) ≤ 4) (hsz : ls.size = nL) (hst : st0 = ([.int h] : List Value).reverse ++ .ref b :: rest) (hrest : (rest.map fun v => v.category).sum ≤ 8) (hdg : decode cc pc = .ok (.invokevirtual 53, 3)) (hR : 3 ≤ R.frames ∧ 120 ≤ R.locals) (hf : cells + 0 ≤ R.cells ∧ slots + 0 ≤ R.slots) :
    va_Run p l e R s m args below meth c H locs cells slots 0 0 (F0 m pc ls st0) rest (q_Qi G [] σ (fun r σ1 => q_V (-2147483648) 2147483647 r) (Value.ref b :: [.int h]).toArray) (q_N G) := by
  have hz := hE.2.2.1.2.2.1 ⟨"CloudLaundry$Kind", "rubs", "(I)I"⟩ (List.mem_of_getElem? (i := 2) rfl)
  rcases q_kindT h1 h2 with ht | ht | ht | ht
  · exact q_runA (As := [.int h]) hE hW (c_X10_rubs l G σ b h) ka_X1_53_1 hz (q_recv hE hW ht rfl q_k10) rfl hsz hst hrest hdg ⟨Nat.le_trans (by decide) hR.1, Nat.le_trans (by decide) hR.2⟩ hf
  · exact q_runA (As := [.int h]) hE hW (c_X9_rubs l G σ b ht h) ka_X1_53_2 hz (q_recv hE hW ht rfl q_k9) rfl hsz hst hrest hdg ⟨Nat.le_trans (by decide) hR.1, Nat.le_trans (by decide) hR.2⟩ hf
  · exact q_runA (As := [.int h]) hE hW (c_X10_rubs l G σ b h) ka_X1_53_3 hz (q_recv hE hW ht rfl q_k3) rfl hsz hst hrest hdg ⟨Nat.le_trans (by decide) hR.1, Nat.le_trans (by decide) hR.2⟩ hf
  · exact q_runA (As := [.int h]) hE hW (c_X0_rubs l G σ b h) ka_X1_53_4 hz (q_recv hE hW ht rfl q_k0) rfl hsz hst hrest hdg ⟨Nat.le_trans (by decide) hR.1, Nat.le_trans (by decide) hR.2⟩ hf
theorem ka_X1_57_1 : q_wA RX1 RX10 "CloudLaundry$Kind" 57 ⟨"CloudLaundry$Kind", "shrinks", "()I"⟩ yX10_shrinks cX10_shrinks 1 (some .int) 0 := ⟨q_goodU wl_754 wl_679 wl_691 wl_688 wl_14 wl_689, by decide, by decide, by decide +kernel⟩
theorem ka_X1_57_2 : q_wA RX1 RX9 "CloudLaundry$Kind" 57 ⟨"CloudLaundry$Kind", "shrinks", "()I"⟩ yX10_shrinks cX10_shrinks 1 (some .int) 0 := ⟨q_goodU wl_754 wl_679 wl_690 wl_688 wl_14 wl_689, by decide, by decide, by decide +kernel⟩
theorem ka_X1_57_3 : q_wA RX1 RX3 "CloudLaundry$Kind" 57 ⟨"CloudLaundry$Kind", "shrinks", "()I"⟩ yX3_shrinks cX3_shrinks 1 (some .int) 0 := ⟨q_goodU wl_754 wl_679 wl_683 wl_684 wl_21 wl_685, by decide, by decide, by decide +kernel⟩
theorem ka_X1_57_4 : q_wA RX1 RX0 "CloudLaundry$Kind" 57 ⟨"CloudLaundry$Kind", "shrinks", "()I"⟩ yX0_shrinks cX0_shrinks 1 (some .int) 0 := ⟨q_goodU wl_754 wl_679 wl_680 wl_681 wl_24 wl_682, by decide, by decide, by decide +kernel⟩
theorem kd_X1_57 {p : Program} (l : Launch) {e : Env} {R : Room} {s : State} {m : MethodId} {args : Array Value} {below : List Frame} {meth : Method} {c : Code} {H : Heap} {locs : List Loc} {cells slots : Nat} {cc : ByteArray} {nL pc : Nat} {ls : Array Slot} {rest st0 : List Value} {G : q_G} {σ σ0 : q_S} {ts : List Nat} {b : Nat} (hE : q_E G p s m args c cc nL RX1) (hW : q_Wd G ts σ0 s.heap σ H locs) (h1 : (1 : Int) ≤ (q_T G b : Int)) (h2 : (q_T G b : Int) ≤ 4) (hsz : ls.size = nL) (hst : st0 = ([] : List Value).reverse ++ .ref b :: rest) (hrest : (rest.map fun v => v.category).sum ≤ 8) (hdg : decode cc pc = .ok (.invokevirtual 57, 3)) (hR : 3 ≤ R.frames ∧ 120 ≤ R.locals) (hf : cells + 0 ≤ R.cells ∧ slots + 0 ≤ R.slots) :
    va_Run p l e R s m args below meth c H locs cells slots 0 0 (F0 m pc ls st0) rest (q_Qi G [] σ (fun r σ1 => q_V (-2147483648) 2147483647 r) (Value.ref b :: []).toArray) (q_N G) := by
  have hz := hE.2.2.1.2.2.1 ⟨"CloudLaundry$Kind", "shrinks", "()I"⟩ (List.mem_of_getElem? (i := 3) rfl)
  rcases q_kindT h1 h2 with ht | ht | ht | ht
  · exact q_runA (As := []) hE hW (c_X10_shrinks l G σ b) ka_X1_57_1 hz (q_recv hE hW ht rfl q_k10) rfl hsz hst hrest hdg ⟨Nat.le_trans (by decide) hR.1, Nat.le_trans (by decide) hR.2⟩ hf
  · exact q_runA (As := []) hE hW (c_X10_shrinks l G σ b) ka_X1_57_2 hz (q_recv hE hW ht rfl q_k9) rfl hsz hst hrest hdg ⟨Nat.le_trans (by decide) hR.1, Nat.le_trans (by decide) hR.2⟩ hf
  · exact q_runA (As := []) hE hW (c_X3_shrinks l G σ b ht) ka_X1_57_3 hz (q_recv hE hW ht rfl q_k3) rfl hsz hst hrest hdg ⟨Nat.le_trans (by decide) hR.1, Nat.le_trans (by decide) hR.2⟩ hf
  · exact q_runA (As := []) hE hW (c_X0_shrinks l G σ b) ka_X1_57_4 hz (q_recv hE hW ht rfl q_k0) rfl hsz hst hrest hdg ⟨Nat.le_trans (by decide) hR.1, Nat.le_trans (by decide) hR.2⟩ hf
