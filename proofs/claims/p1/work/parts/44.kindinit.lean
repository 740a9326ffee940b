/-! nest constructors -/
section QN
variable {p : Program} {l : Launch} {e : Env} {R : Room} {s : State} {m : MethodId} {args : Array Value} {below : List Frame} {meth : Method} {c : Code} {H : Heap} {locs : List Loc} {cells slots : Nat} {Q : State → Prop}
variable {cc bytes : ByteArray} {nL pc d maxL n index : Nat} {own C : String} {y : MethodName} {ls : Array Slot} {As rest st0 : List Value} {G : q_G} {σ σ0 : q_S} {ts : List Nat} {a b t : Nat}
theorem q_runN {Qc : Array Value → State → Outcome → State → Prop} (hE : q_E G p s m args c cc nL own) (hW : q_Wd G ts σ0 s.heap σ H locs) (hM : Met l y (Cond.code y bytes maxL none :: wsL_law) (q_Rm d) (q_Pre G σ (.ref b :: As)) Qc 0 0 (q_N G)) (hcode : Cond.code y bytes maxL none ∈ wsL_law) (hini : Cond.initialized y.cls ∈ wsL_law) (hinst : Cond.instanceMethod y ∈ wsL_law) (hl : va_Nw (.methodLinkNest own index y "CloudLaundry") s) (hy : y.name = "<init>") (hd : y.cls ≠ "java/lang/invoke/MethodHandle" ∧ y.cls ≠ "java/lang/invoke/VarHandle" ∧ (parseMethodDescriptor y.desc).map (fun d => d.parameters.length) = some n)
    (hn : As.length = n) (hsz : ls.size = nL) (hst : st0 = As.reverse ++ .ref b :: rest) (hrest : (rest.map fun v => v.category).sum ≤ 8) (hdg : decode cc pc = .ok (.invokespecial index, 3)) (hR : (q_Rm d).frames + 1 ≤ R.frames ∧ 8 + (maxL + 11) + (q_Rm d).locals ≤ R.locals) (hf : cells + 0 ≤ R.cells ∧ slots + 0 ≤ R.slots) :
    va_Run p l e R s m args below meth c H locs cells slots 0 0 (F0 m pc ls st0) rest (Qc (Value.ref b :: As).toArray) (q_N G) :=
  va_runIN (nL := nL) hE.1 hM ⟨va_cnB n hE.1.2.2.2.2 (q_goodc hcode) rfl rfl rfl hl (hE.w hini) hd hR, hy, hE.w hinst⟩ ⟨q_blind, fun U hU hW' => ⟨rfl, by rw [hU]; exact hW.1, hE.2.go hW' hW.2.2 hU⟩⟩ rfl hn hsz hst (lv_room hrest) hdg hf
/-- an int into row 46, at its places 54 .. 56 -/
theorem q_iaC {L0 L : List Nat} {T0 T : Nat → Nat} {σ0 : q_S} {r : Nat} {dn : List Nat} {ex : List (Nat × Nat)} (hE : q_E G p s m args c cc nL own) (hW : q_Wc G s.heap L T σ H locs) (hg : q_Gw L0 T0 σ0 L T σ a) (hp : q_Po L T σ a t dn ex) (hr : T r = 46) (hn : r ∉ L0) (h00 : T0 r = 0) {i x : Int32} (h1 : 54 ≤ i.toNatClampNeg) (h2 : i.toNatClampNeg ≤ 56) (hin : vp_in i 101) (hx : q_eP 46 i.toNatClampNeg x.toInt) (hdg : decode cc pc = .ok (.iastore, 1))
    (kk : ∀ (σ1 : q_S) (H1 : Heap) (locs1 : List Loc), q_Wc G s.heap L T σ1 H1 locs1 → q_Gw L0 T0 σ0 L T σ1 a → q_Po L T σ1 a t dn ex → W p l e R s m args below meth c H1 locs1 cells slots Q (F0 m (pc + 1) ls rest)) : W p l e R s m args below meth c H locs cells slots Q (F0 m pc ls (.int x :: .int i :: .ref r :: rest)) := by
  have hz := hg.2.2.2 r (by rw [hr]; decide) h00
  rw [hr] at hz
  obtain ⟨hL, f, e0, hv⟩ := q_Ow.arr hW.1 (show q_T (q_Gx G L T) r = 46 from hr) rfl
  have hL : r ∈ L := hL
  obtain ⟨q0, hq⟩ := va_pl_get (X := []) (f := σ) hL
  have hst := fun (e9 : va_E) => va_pl_set (X := []) (L := L) (e := e9) (show va_D (q_N G) ([] ++ va_pl L σ) from hW.1.2.1) hL hq
  rw [List.nil_append, e0] at hq
  simp only [List.nil_append] at hst
  have hra : r ≠ a := fun e => by
    have := hp.2.1
    rw [← e, hr] at this
    cases this
  refine va_iast hE.1.1 hE.1.2.1 hE.2.1 hW.1.1 hW.1.2.1 hW.2 q0 0 hq rfl hin hdg fun H1 locs1 h3 h4 h5 => ?_
  have h3 : va_P (q_D G) vwCl ((va_pl L σ).set q0 (r, .inl (q_C G 0, 101, .inl (upd f i.toNatClampNeg x)))) H1 := h3
  have h4 : va_D (q_N G) ((va_pl L σ).set q0 (r, .inl (q_C G 0, 101, .inl (upd f i.toNatClampNeg x)))) := h4
  rw [hst] at h3 h4
  obtain ⟨g1, g2, o, vs, g3, g4, g5, g6, g7⟩ := hp
  refine kk _ H1 locs1 ⟨⟨h3, h4, fun y9 hy => ?_⟩, h5⟩ ⟨hg.1, hg.2.1, fun y9 hy hne => ?_, fun y9 hy hy0 => ?_⟩ ⟨g1, g2, o, vs, g3, (va_up_ne _ _ (Ne.symm hra)).trans g4, g5, g6, g7⟩
  · obtain ⟨e1, e2⟩ := hW.1.2.2 y9 hy
    refine ⟨e1, ?_⟩
    by_cases e3 : y9 = r
    · subst e3
      rw [va_up_self]
      show q_ok (q_Gx G L T) (T y9) _
      rw [hr]
      refine q_okarr (G := q_Gx G L T) (t := 46) rfl fun j hj => ?_
      by_cases e4 : j = i.toNatClampNeg
      · subst e4; simp only [upd, if_pos]; exact hx
      · simp only [upd, if_neg e4]; exact hv j hj
    · rw [va_up_ne _ _ e3]; exact e2
  · have e3 : y9 ≠ r := fun e => hn (e ▸ hy)
    obtain ⟨w1, w2⟩ := hg.2.2.1 y9 hy hne
    exact ⟨w1, fun z => (va_up_ne _ _ e3).trans (w2 z)⟩
  · by_cases e3 : y9 = r
    · subst e3
      rw [va_up_self, hr]
      refine ⟨fun o k lo hi h8 => (by cases h8), fun o j h8 hj => ?_⟩
      cases h8
      by_cases e4 : j = i.toNatClampNeg
      · subst e4; exact Or.inr (Or.inl ⟨rfl, h1, h2⟩)
      · have h9 := hz.2 _ j rfl hj
        have h9 : q_ia 46 j (match σ y9 with | .inl (_, _, .inl f) => f j | _ => 0) := h9
        rw [e0] at h9
        show q_ia 46 j (upd f i.toNatClampNeg x j)
        simp only [upd, if_neg e4]
        exact h9
    · rw [va_up_ne _ _ e3]; exact hg.2.2.2 y9 hy hy0
end QN
set_option maxHeartbeats 4000000 in
theorem c_X4_init (l : Launch) (G : q_G) (σ : q_S) (a0 : Nat) : Met l yX4_init (Cond.code yX4_init cX4_init 1 none :: wsL_law) (q_Rm 1) (q_Pre G σ [.ref a0]) (q_Qv G [] σ (fun _ => True)) 0 0 (q_N G) := by
  refine q_ofW (ts := []) (by decide) (Nat.le_of_ble_eq_true rfl) ?_
  intro p e s m args below meth c hE hr hlocks hW ls hl
  have hE : q_E G p s m args c cX4_init 1 RX4 := hE
  have hx := hE.1.1
  have hb := hE.1.2.1
  have hl : lv_has ls 1 [(0, .ref a0)] := hl
  refine lv_aload_n hx hb dX4_init_0 rfl (lv_at hl 0 rfl) ?_
  refine W.objInit hx hb hE.1.2.2.2.1 (hE.w wl_65) (hE.w wl_10) (hE.w wl_11) rfl (hl.1.trans hE.1.2.2.1.symm) rfl dX4_init_1 (Nat.le_of_ble_eq_true rfl) (Nat.le_of_ble_eq_true rfl) ?_
  refine W.eq (g2 := F0 m 4 ls []) rfl ?_
  exact q_retv hE hr hlocks hW trivial dX4_init_4
set_option maxHeartbeats 4000000 in
theorem c_X10_init (l : Launch) (G : q_G) (σ : q_S) (a0 : Nat) : Met l yX10_init (Cond.code yX10_init cX10_init 1 none :: wsL_law) (q_Rm 2) (q_Pre G σ [.ref a0]) (q_Qv G [] σ (fun _ => True)) 0 0 (q_N G) := by
  refine q_ofW (ts := []) (by decide) (Nat.le_of_ble_eq_true rfl) ?_
  intro p e s m args below meth c hE hr hlocks hW ls hl
  have hE : q_E G p s m args c cX10_init 1 RX10 := hE
  have hx := hE.1.1
  have hb := hE.1.2.1
  have hl : lv_has ls 1 [(0, .ref a0)] := hl
  refine lv_aload_n hx hb dX10_init_0 rfl (lv_at hl 0 rfl) ?_
  refine q_gov hW (q_runN (As := []) (rest := []) hE hW (c_X4_init l G σ a0) wl_64 wl_63 wl_62 (hE.2.2.1.2.1 _ (List.mem_of_getElem? (i := 1) rfl)) rfl ⟨by decide, by decide, by decide +kernel⟩ rfl hl.1 rfl (Nat.le_of_ble_eq_true rfl) dX10_init_1 ⟨by decide, by decide⟩ ⟨by decide, by decide⟩) (by decide) (fun ks1 H locs kp1 kf1 hW => ?_)
  exact q_retv hE hr hlocks hW trivial dX10_init_4
set_option maxHeartbeats 4000000 in
theorem c_X0_init (l : Launch) (G : q_G) (σ : q_S) (a0 : Nat) : Met l yX0_init (Cond.code yX0_init cX0_init 1 none :: wsL_law) (q_Rm 2) (q_Pre G σ [.ref a0]) (q_Qv G [] σ (fun _ => True)) 0 0 (q_N G) := by
  refine q_ofW (ts := []) (by decide) (Nat.le_of_ble_eq_true rfl) ?_
  intro p e s m args below meth c hE hr hlocks hW ls hl
  have hE : q_E G p s m args c cX0_init 1 RX0 := hE
  have hx := hE.1.1
  have hb := hE.1.2.1
  have hl : lv_has ls 1 [(0, .ref a0)] := hl
  refine lv_aload_n hx hb dX0_init_0 rfl (lv_at hl 0 rfl) ?_
  refine q_gov hW (q_runN (As := []) (rest := []) hE hW (c_X4_init l G σ a0) wl_64 wl_63 wl_62 (hE.2.2.1.2.1 _ (List.mem_of_getElem? (i := 7) rfl)) rfl ⟨by decide, by decide, by decide +kernel⟩ rfl hl.1 rfl (Nat.le_of_ble_eq_true rfl) dX0_init_1 ⟨by decide, by decide⟩ ⟨by decide, by decide⟩) (by decide) (fun ks1 H locs kp1 kf1 hW => ?_)
  exact q_retv hE hr hlocks hW trivial dX0_init_4
set_option maxHeartbeats 4000000 in
theorem c_X9_init (l : Launch) (G : q_G) (σ : q_S) (a0 : Nat) : Met l yX9_init (Cond.code yX9_init cX9_init 1 none :: wsL_law) (q_Rm 3) (q_Pre G σ [.ref a0]) (q_Qv G [] σ (fun _ => True)) 0 0 (q_N G) := by
  refine q_ofW (ts := []) (by decide) (Nat.le_of_ble_eq_true rfl) ?_
  intro p e s m args below meth c hE hr hlocks hW ls hl
  have hE : q_E G p s m args c cX9_init 1 RX9 := hE
  have hx := hE.1.1
  have hb := hE.1.2.1
  have hl : lv_has ls 1 [(0, .ref a0)] := hl
  refine lv_aload_n hx hb dX9_init_0 rfl (lv_at hl 0 rfl) ?_
  refine q_gov hW (q_runN (As := []) (rest := []) hE hW (c_X10_init l G σ a0) wl_61 wl_14 wl_60 (hE.2.2.1.2.1 _ (List.mem_of_getElem? (i := 3) rfl)) rfl ⟨by decide, by decide, by decide +kernel⟩ rfl hl.1 rfl (Nat.le_of_ble_eq_true rfl) dX9_init_1 ⟨by decide, by decide⟩ ⟨by decide, by decide⟩) (by decide) (fun ks1 H locs kp1 kf1 hW => ?_)
  exact q_retv hE hr hlocks hW trivial dX9_init_4
set_option maxHeartbeats 4000000 in
theorem c_X3_init (l : Launch) (G : q_G) (σ : q_S) (a0 : Nat) : Met l yX3_init (Cond.code yX3_init cX3_init 1 none :: wsL_law) (q_Rm 3) (q_Pre G σ [.ref a0]) (q_Qv G [] σ (fun _ => True)) 0 0 (q_N G) := by
  refine q_ofW (ts := []) (by decide) (Nat.le_of_ble_eq_true rfl) ?_
  intro p e s m args below meth c hE hr hlocks hW ls hl
  have hE : q_E G p s m args c cX3_init 1 RX3 := hE
  have hx := hE.1.1
  have hb := hE.1.2.1
  have hl : lv_has ls 1 [(0, .ref a0)] := hl
  refine lv_aload_n hx hb dX3_init_0 rfl (lv_at hl 0 rfl) ?_
  refine q_gov hW (q_runN (As := []) (rest := []) hE hW (c_X10_init l G σ a0) wl_61 wl_14 wl_60 (hE.2.2.1.2.1 _ (List.mem_of_getElem? (i := 5) rfl)) rfl ⟨by decide, by decide, by decide +kernel⟩ rfl hl.1 rfl (Nat.le_of_ble_eq_true rfl) dX3_init_1 ⟨by decide, by decide⟩ ⟨by decide, by decide⟩) (by decide) (fun ks1 H locs kp1 kf1 hW => ?_)
  exact q_retv hE hr hlocks hW trivial dX3_init_4
theorem kw_X2_27 : q_wS RX2 27 yJ7_fill_53178 cJ7_fill_53178 4 none 2 := ⟨⟨wl_97, wl_98, wl_99, wl_100⟩, by decide, by decide, by decide +kernel⟩
