/-! THE CLAIM OUT OF ONE WALK OF THE LAW'S BODY. Your part is whole_start (and what it stands on); all else here is the same for every law, but numbers. -/
def R_law : String := "CloudLaundryLaw"
def lw_P (b : Addr) (xs : List Int32) (args : Array Value) (s : State) : Prop := args = #[.ref b] ∧ s.IntsAt b xs ∧ xs.length ≤ 6 ∧ (Jvm.Cond.and given_1 narrow_1).before args s = true
def lw_Q (_ : Array Value) (s : State) (o : Outcome) (t : State) : Prop := o = .returned (some (.int 1)) ∧ Framed s o t [] 600000 7302250
def lw_Z (below : List Frame) (a : Array Value) (s : State) : State → Prop := fun t => ∃ o, t.status = .running ∧ Ended t below o ∧ lw_Q a s o t
/-- the law's own end, with 1 on the stack, nothing written that was there before, its room as the claim has it -/
theorem lw_ret {p : Program} {l : Launch} {e : Env} {s : State} {m : MethodId} {below : List Frame} {meth : Method} {c : Code} {b : Nat} (hx : p.tables.exec = Jvm.exec) (hb : c.code = code) (hr : meth.sig.returnType = ret) (hlocks : meth.locks = false) {pc : Nat} {H : Heap} {ls : Array Slot} (hdg : decode code pc = .ok (.ireturn, 1)) : W p l e room_1 s m #[Value.ref b] below meth c H [] 600000 7302250 (lw_Z below #[Value.ref b] s) (F0 m pc ls [.int 1]) := by
  intro T hT X
  obtain ⟨fs, hret, hrun, hended, hW, hframe⟩ := X.leave (v := some (.int 1)) (hlocks := hlocks) (fun h => by rw [hr] at h; cases h)
  have hmeth' : T.vm.method? m = some meth := X.method'
  refine ⟨T.setFrames fs, ?_, .returned (some (.int 1)), hrun, hended, rfl, ⟨_, rfl⟩, hW, hframe⟩
  jvm_step X.here [X.here.top, hx, hb, hdg, hmeth', hr, ret, narrow_b1]
  (try refine ⟨rfl, ?_⟩); (try refine ⟨rfl, ?_⟩)
  first | (intro acts; rw [hret _ acts rfl rfl rfl]) | rw [hret _ _ rfl rfl rfl]
  exact Steps.refl _
/-- what holds at the law's entry: the machine, the code, the tables' words (any of lw_tbl by 'hts w (by decide +kernel)'), the script of L ints xs at the cell b, what the Statement gives of the start (any of its parts by flat_of_before) -/
def lw_At (p : Program) (s : State) (m : MethodId) (meth : Method) (c : Code) (b L : Nat) (xs : Nat → Int32) : Prop :=
  p.tables.exec = Jvm.exec ∧ c.code = code ∧ meth.sig.returnType = ret ∧ c.maxLocals = 4 ∧ s.vm.findClass R_law = some m.cls ∧ (∀ w ∈ lw_tbl, w.before #[Value.ref b] s = true) ∧ va_X b L xs s s.heap ∧ b < s.heap.size ∧ meth.locks = false ∧ (Jvm.Cond.and given_1 narrow_1).before #[Value.ref b] s = true
/-! the law's loop, and the law -/
theorem k_L6 {L : Nat} (hL : L ≤ 6) : (Int32.ofNat L - 6).toInt = (L : Int) - 6 := by
  have e1 : (Int32.ofNat L).toInt = (L : Int) := Int32.toInt_ofNat_of_lt (by omega)
  have := q_subT (x := Int32.ofNat L) (y := 6) (a := 0) (b := 3072) (c := 6) (d := 6) ⟨by omega, by omega⟩ ⟨by decide, by decide⟩ (by decide) (by decide)
  rw [this, e1]; rfl
set_option maxHeartbeats 8000000 in
set_option maxRecDepth 100000 in
/-- behind the last call -/
theorem law_exit {p : Program} {e : Env} {s : State} {m : MethodId} {below : List Frame} {meth : Method} {c : Code} (l : Launch) {G : q_G} {σ σ0 : q_S} {b L x1 x2 : Nat} {xs : Nat → Int32} {i : Int32} {H : Heap} {locs : List Loc} {ls : Array Slot} (hL : L ≤ 6) (hE : q_E G p s m #[Value.ref b] c cL_law 4 RL) (hr : meth.sig.returnType = ret) (hlocks : meth.locks = false) (hX : va_X b L xs s s.heap) (hbl : b < s.heap.size) (hB : q_B G = s.heap.size) (hi : (L : Int) - 6 < i.toInt) (hW : q_Wd G q_AT σ0 s.heap σ H locs) (hl : lv_has ls 4 [(3, .int i), (2, .ref x2), (1, .ref x1), (0, .ref b)]) : W p l e room_1 s m #[Value.ref b] below meth c H locs 407 4557 (lw_Z below #[Value.ref b] s) (F0 m 18 ls []) := by
  have hx := hE.1.1
  have hb := hE.1.2.1
  have hbA : ¬ q_N G b := fun h => absurd hbl (Nat.not_lt.mpr (by rw [← hB]; exact h))
  refine lv_iload_n hx hb dL_law_18 rfl (lv_at hl 0 rfl) ?_
  refine lv_aload_n hx hb dL_law_19 rfl (lv_at hl 3 rfl) ?_
  refine va_slen hx hb hX hbl hbA hW.2.2 dL_law_20 ?_
  refine lv_bipush (v := 6) hx hb dL_law_21 (by decide) ?_
  refine lv_isub hx hb dL_law_23 ?_
  refine lv_topi (fun y ey => ?_)
  have hy : y.toInt = (L : Int) - 6 := by rw [ey]; exact k_L6 hL
  refine lv_icmp_gt (tgt := 1172) hx hb dL_law_24 (by decide) (fun _ => ?_) (fun hc => absurd (Int32.lt_iff_toInt_lt.mpr (by rw [hy]; exact hi)) hc)
  refine lv_iconst (v := 1) hx hb dL_law_1172 (by decide) ?_
  refine va_forget (fun q hq => by have h9 := hW.2.2.2.2 q hq; rw [← hB]; exact h9) ?_
  refine W.widen (k := 600000) (n := 7302250) (Nat.le_of_ble_eq_true rfl) (Nat.le_of_ble_eq_true rfl) ?_
  exact lw_ret hx hb hr hlocks dL_law_1173
set_option maxHeartbeats 8000000 in
set_option maxRecDepth 100000 in
theorem law_first {p : Program} {e : Env} {s : State} {m : MethodId} {below : List Frame} {meth : Method} {c : Code} (l : Launch) {G : q_G} {σ σ0 : q_S} {b L x1 x2 : Nat} {xs : Nat → Int32} {H : Heap} {locs : List Loc} {ls : Array Slot} (hL : L ≤ 6) (hE : q_E G p s m #[Value.ref b] c cL_law 4 RL) (hr : meth.sig.returnType = ret) (hlocks : meth.locks = false) (hX : va_X b L xs s s.heap) (hbl : b < s.heap.size) (hB : q_B G = s.heap.size) (h1 : q_T G x1 = 26) (h2 : q_T G x2 = 40) (hz : q_fr G q_FF q_FA σ) (hW : q_Wd G q_AT σ0 s.heap σ H locs) (i : Int32) (hi0 : i.toInt = 0) (hl : lv_has ls 4 [(3, .int i), (2, .ref x2), (1, .ref x1), (0, .ref b)]) : W p l e room_1 s m #[Value.ref b] below meth c H locs 407 4557 (lw_Z below #[Value.ref b] s) (F0 m 18 ls []) := by
  have hx := hE.1.1
  have hb := hE.1.2.1
  have hbA : ¬ q_N G b := fun h => absurd hbl (Nat.not_lt.mpr (by rw [← hB]; exact h))
  by_cases h6 : (L : Int) - 6 < i.toInt
  · exact law_exit l hL hE hr hlocks hX hbl hB h6 hW hl
  · refine lv_iload_n hx hb dL_law_18 rfl (lv_at hl 0 rfl) ?_
    refine lv_aload_n hx hb dL_law_19 rfl (lv_at hl 3 rfl) ?_
    refine va_slen hx hb hX hbl hbA hW.2.2 dL_law_20 ?_
    refine lv_bipush (v := 6) hx hb dL_law_21 (by decide) ?_
    refine lv_isub hx hb dL_law_23 ?_
    refine lv_topi (fun y ey => ?_)
    have hy : y.toInt = (L : Int) - 6 := by rw [ey]; exact k_L6 hL
    refine lv_icmp_gt (tgt := 1172) hx hb dL_law_24 (by decide) (fun hc => absurd (by have := Int32.lt_iff_toInt_lt.mp hc; rw [hy] at this; exact this) h6) (fun _ => ?_)
    have hix : k_ix i L := ⟨by omega, by omega, by omega⟩
    have kend : ∀ (σ1 : q_S) (H1 : Heap) (locs1 : List Loc), q_Wd G q_AT σ0 s.heap σ1 H1 locs1 → W p l e room_1 s m #[Value.ref b] below meth c H1 locs1 407 4557 (lw_Z below #[Value.ref b] s) (F0 m 1166 ls []) := by
      intro σ1 H1 locs1 hW
      obtain ⟨j, ej⟩ : ∃ y : Int32, y = i + 6 := ⟨_, rfl⟩
      have hj : j.toInt = i.toInt + 6 := by rw [ej]; exact q_addT (a := 0) (b := 0) (c := 6) (d := 6) ⟨by omega, by omega⟩ ⟨by decide, by decide⟩ (by decide) (by decide)
      refine lv_iinc (v := j) (lv' := [(3, .int j), (2, .ref x2), (1, .ref x1), (0, .ref b)]) hx hb dL_law_1166 hl (k := 0) rfl (by rw [ej]; rfl) (by decide) rfl (fun ls hl => ?_)
      refine lv_goto (tgt := 18) hx hb dL_law_1169 (by decide) ?_
      exact law_exit l hL hE hr hlocks hX hbl hB (by omega) hW hl
    refine lv_aload_n hx hb dL_law_27 rfl (lv_at hl 3 rfl) ?_
    refine lv_iload_n hx hb dL_law_28 rfl (lv_at hl 0 rfl) ?_
    refine va_sld hx hb hX hbl hbA hW.2.2 (vp_in_iff.mpr ⟨by omega, by omega⟩) dL_law_29 ?_
    refine lv_bipush (v := 63) hx hb dL_law_30 (by decide) ?_
    refine lv_iand hx hb dL_law_32 ?_
    refine lv_topi (fun z _ => ?_)
    rcases q_sw z 0 33 with cz | cz
    · refine lv_tableOut (tgt := 1166) hx hb dL_law_33 cz (by decide) ?_
      exact kend _ _ _ hW
    · obtain ⟨cza, czb⟩ := cz
      by_cases cz_0 : z.toInt = 0
      · refine lv_tableIn (off := 151) (tgt := 184) hx hb dL_law_33 (by rw [cz_0]; decide) (by rw [cz_0]; decide) (by rw [cz_0]; rfl) (by decide) ?_
        exact law_k0 l hE hW hX hbl hbA h1 h2 hix hz hl kend
      by_cases cz_1 : z.toInt = 1
      · refine lv_tableIn (off := 174) (tgt := 207) hx hb dL_law_33 (by rw [cz_1]; decide) (by rw [cz_1]; decide) (by rw [cz_1]; rfl) (by decide) ?_
        exact law_k1 l hE hW hX hbl hbA h1 h2 hix hz hl kend
      by_cases cz_2 : z.toInt = 2
      · refine lv_tableIn (off := 187) (tgt := 220) hx hb dL_law_33 (by rw [cz_2]; decide) (by rw [cz_2]; decide) (by rw [cz_2]; rfl) (by decide) ?_
        exact law_k2 l hE hW hX hbl hbA h1 h2 hix hz hl kend
      by_cases cz_3 : z.toInt = 3
      · refine lv_tableIn (off := 200) (tgt := 233) hx hb dL_law_33 (by rw [cz_3]; decide) (by rw [cz_3]; decide) (by rw [cz_3]; rfl) (by decide) ?_
        exact law_k3 l hE hW hX hbl hbA h1 h2 hix hz hl kend
      by_cases cz_4 : z.toInt = 4
      · refine lv_tableIn (off := 213) (tgt := 246) hx hb dL_law_33 (by rw [cz_4]; decide) (by rw [cz_4]; decide) (by rw [cz_4]; rfl) (by decide) ?_
        exact law_k4 l hE hW hX hbl hbA h1 h2 hix hz hl kend
      by_cases cz_5 : z.toInt = 5
      · refine lv_tableIn (off := 246) (tgt := 279) hx hb dL_law_33 (by rw [cz_5]; decide) (by rw [cz_5]; decide) (by rw [cz_5]; rfl) (by decide) ?_
        exact law_k5 l hE hW hX hbl hbA h1 h2 hix hz hl kend
      by_cases cz_6 : z.toInt = 6
      · refine lv_tableIn (off := 279) (tgt := 312) hx hb dL_law_33 (by rw [cz_6]; decide) (by rw [cz_6]; decide) (by rw [cz_6]; rfl) (by decide) ?_
        exact law_k6 l hE hW hX hbl hbA h1 h2 hix hz hl kend
      by_cases cz_7 : z.toInt = 7
      · refine lv_tableIn (off := 312) (tgt := 345) hx hb dL_law_33 (by rw [cz_7]; decide) (by rw [cz_7]; decide) (by rw [cz_7]; rfl) (by decide) ?_
        exact law_k7 l hE hW hX hbl hbA h1 h2 hix hz hl kend
      by_cases cz_8 : z.toInt = 8
      · refine lv_tableIn (off := 345) (tgt := 378) hx hb dL_law_33 (by rw [cz_8]; decide) (by rw [cz_8]; decide) (by rw [cz_8]; rfl) (by decide) ?_
        exact law_k8 l hE hW hX hbl hbA h1 h2 hix hz hl kend
      by_cases cz_9 : z.toInt = 9
      · refine lv_tableIn (off := 378) (tgt := 411) hx hb dL_law_33 (by rw [cz_9]; decide) (by rw [cz_9]; decide) (by rw [cz_9]; rfl) (by decide) ?_
        exact law_k9 l hE hW hX hbl hbA h1 h2 hix hz hl kend
      by_cases cz_10 : z.toInt = 10
      · refine lv_tableIn (off := 411) (tgt := 444) hx hb dL_law_33 (by rw [cz_10]; decide) (by rw [cz_10]; decide) (by rw [cz_10]; rfl) (by decide) ?_
        exact law_k10 l hE hW hX hbl hbA h1 h2 hix hz hl kend
      by_cases cz_11 : z.toInt = 11
      · refine lv_tableIn (off := 434) (tgt := 467) hx hb dL_law_33 (by rw [cz_11]; decide) (by rw [cz_11]; decide) (by rw [cz_11]; rfl) (by decide) ?_
        exact law_k11 l hE hW hX hbl hbA h1 h2 hix hz hl kend
      by_cases cz_12 : z.toInt = 12
      · refine lv_tableIn (off := 457) (tgt := 490) hx hb dL_law_33 (by rw [cz_12]; decide) (by rw [cz_12]; decide) (by rw [cz_12]; rfl) (by decide) ?_
        exact law_k12 l hE hW hX hbl hbA h1 h2 hix hz hl kend
      by_cases cz_13 : z.toInt = 13
      · refine lv_tableIn (off := 480) (tgt := 513) hx hb dL_law_33 (by rw [cz_13]; decide) (by rw [cz_13]; decide) (by rw [cz_13]; rfl) (by decide) ?_
        exact law_k13 l hE hW hX hbl hbA h1 h2 hix hz hl kend
      by_cases cz_14 : z.toInt = 14
      · refine lv_tableIn (off := 503) (tgt := 536) hx hb dL_law_33 (by rw [cz_14]; decide) (by rw [cz_14]; decide) (by rw [cz_14]; rfl) (by decide) ?_
        exact law_k14 l hE hW hX hbl hbA h1 h2 hix hz hl kend
      by_cases cz_15 : z.toInt = 15
      · refine lv_tableIn (off := 526) (tgt := 559) hx hb dL_law_33 (by rw [cz_15]; decide) (by rw [cz_15]; decide) (by rw [cz_15]; rfl) (by decide) ?_
        exact law_k15 l hE hW hX hbl hbA h1 h2 hix hz hl kend
      by_cases cz_16 : z.toInt = 16
      · refine lv_tableIn (off := 539) (tgt := 572) hx hb dL_law_33 (by rw [cz_16]; decide) (by rw [cz_16]; decide) (by rw [cz_16]; rfl) (by decide) ?_
        exact law_k16 l hE hW hX hbl hbA h1 h2 hix hz hl kend
      by_cases cz_17 : z.toInt = 17
      · refine lv_tableIn (off := 562) (tgt := 595) hx hb dL_law_33 (by rw [cz_17]; decide) (by rw [cz_17]; decide) (by rw [cz_17]; rfl) (by decide) ?_
        exact law_k17 l hE hW hX hbl hbA h1 h2 hix hz hl kend
      by_cases cz_18 : z.toInt = 18
      · refine lv_tableIn (off := 585) (tgt := 618) hx hb dL_law_33 (by rw [cz_18]; decide) (by rw [cz_18]; decide) (by rw [cz_18]; rfl) (by decide) ?_
        exact law_k18 l hE hW hX hbl hbA h1 h2 hix hz hl kend
      by_cases cz_19 : z.toInt = 19
      · refine lv_tableIn (off := 618) (tgt := 651) hx hb dL_law_33 (by rw [cz_19]; decide) (by rw [cz_19]; decide) (by rw [cz_19]; rfl) (by decide) ?_
        exact law_k19 l hE hW hX hbl hbA h1 h2 hix hz hl kend
      by_cases cz_20 : z.toInt = 20
      · refine lv_tableIn (off := 651) (tgt := 684) hx hb dL_law_33 (by rw [cz_20]; decide) (by rw [cz_20]; decide) (by rw [cz_20]; rfl) (by decide) ?_
        exact law_k20 l hE hW hX hbl hbA h1 h2 hix hz hl kend
      by_cases cz_21 : z.toInt = 21
      · refine lv_tableIn (off := 684) (tgt := 717) hx hb dL_law_33 (by rw [cz_21]; decide) (by rw [cz_21]; decide) (by rw [cz_21]; rfl) (by decide) ?_
        exact law_k21 l hE hW hX hbl hbA h1 h2 hix hz hl kend
      by_cases cz_22 : z.toInt = 22
      · refine lv_tableIn (off := 707) (tgt := 740) hx hb dL_law_33 (by rw [cz_22]; decide) (by rw [cz_22]; decide) (by rw [cz_22]; rfl) (by decide) ?_
        exact law_k22 l hE hW hX hbl hbA h1 h2 hix hz hl kend
      by_cases cz_23 : z.toInt = 23
      · refine lv_tableIn (off := 730) (tgt := 763) hx hb dL_law_33 (by rw [cz_23]; decide) (by rw [cz_23]; decide) (by rw [cz_23]; rfl) (by decide) ?_
        exact law_k23 l hE hW hX hbl hbA h1 h2 hix hz hl kend
      by_cases cz_24 : z.toInt = 24
      · refine lv_tableIn (off := 773) (tgt := 806) hx hb dL_law_33 (by rw [cz_24]; decide) (by rw [cz_24]; decide) (by rw [cz_24]; rfl) (by decide) ?_
        exact law_k24 l hE hW hX hbl hbA h1 h2 hix hz hl kend
      by_cases cz_25 : z.toInt = 25
      · refine lv_tableIn (off := 786) (tgt := 819) hx hb dL_law_33 (by rw [cz_25]; decide) (by rw [cz_25]; decide) (by rw [cz_25]; rfl) (by decide) ?_
        exact law_k25 l hE hW hX hbl hbA h1 h2 hix hz hl kend
      by_cases cz_26 : z.toInt = 26
      · refine lv_tableIn (off := 809) (tgt := 842) hx hb dL_law_33 (by rw [cz_26]; decide) (by rw [cz_26]; decide) (by rw [cz_26]; rfl) (by decide) ?_
        exact law_k26 l hE hW hX hbl hbA h1 h2 hix hz hl kend
      by_cases cz_27 : z.toInt = 27
      · refine lv_tableIn (off := 862) (tgt := 895) hx hb dL_law_33 (by rw [cz_27]; decide) (by rw [cz_27]; decide) (by rw [cz_27]; rfl) (by decide) ?_
        exact law_k27 l hE hW hX hbl hbA h1 h2 hix hz hl kend
      by_cases cz_28 : z.toInt = 28
      · refine lv_tableIn (off := 905) (tgt := 938) hx hb dL_law_33 (by rw [cz_28]; decide) (by rw [cz_28]; decide) (by rw [cz_28]; rfl) (by decide) ?_
        exact law_k28 l hE hW hX hbl hbA h1 h2 hix hz hl kend
      by_cases cz_29 : z.toInt = 29
      · refine lv_tableIn (off := 958) (tgt := 991) hx hb dL_law_33 (by rw [cz_29]; decide) (by rw [cz_29]; decide) (by rw [cz_29]; rfl) (by decide) ?_
        exact law_k29 l hE hW hX hbl hbA h1 h2 hix hz hl kend
      by_cases cz_30 : z.toInt = 30
      · refine lv_tableIn (off := 1001) (tgt := 1034) hx hb dL_law_33 (by rw [cz_30]; decide) (by rw [cz_30]; decide) (by rw [cz_30]; rfl) (by decide) ?_
        exact law_k30 l hE hW hX hbl hbA h1 h2 hix hz hl kend
      by_cases cz_31 : z.toInt = 31
      · refine lv_tableIn (off := 1064) (tgt := 1097) hx hb dL_law_33 (by rw [cz_31]; decide) (by rw [cz_31]; decide) (by rw [cz_31]; rfl) (by decide) ?_
        exact law_k31 l hE hW hX hbl hbA h1 h2 hix hz hl kend
      by_cases cz_32 : z.toInt = 32
      · refine lv_tableIn (off := 1087) (tgt := 1120) hx hb dL_law_33 (by rw [cz_32]; decide) (by rw [cz_32]; decide) (by rw [cz_32]; rfl) (by decide) ?_
        exact law_k32 l hE hW hX hbl hbA h1 h2 hix hz hl kend
      have cz_33 : z.toInt = 33 := by omega
      refine lv_tableIn (off := 1110) (tgt := 1143) hx hb dL_law_33 (by rw [cz_33]; decide) (by rw [cz_33]; decide) (by rw [cz_33]; rfl) (by decide) ?_
      exact law_k33 l hE hW hX hbl hbA h1 h2 hix hz hl kend
set_option maxHeartbeats 8000000 in
set_option maxRecDepth 100000 in
/-- THE LAW, from its entry -/
theorem whole_start {p : Program} {e : Env} {s : State} {m : MethodId} {below : List Frame} {meth : Method} {c : Code} (l : Launch) {b L : Nat} {xs : Nat → Int32} (hL : L ≤ 6) (C0 : lw_At p s m meth c b L xs) : W p l e room_1 s m #[Value.ref b] below meth c s.heap [] 0 0 (lw_Z below #[Value.ref b] s) (entryFrame m ([Value.ref b] : List Value).toArray 4) := by
  obtain ⟨hx, hb, hr, hml, hown, hts, hX, hbl, hlocks, hgv⟩ := id C0
  obtain ⟨G, hB, -, -, hK⟩ := k_start hts hgv
  have hE : q_E G p s m #[Value.ref b] c cL_law 4 RL := ⟨⟨hx, hb, hml, hown, fun w h => hts w (kt_all w h)⟩, hK⟩
  have hA : q_AA s := hts _ kt_A
  have hBl : q_B G ≤ s.heap.size := Nat.le_of_eq hB
  have hW : q_Wc G s.heap [] (fun _ => 0) (fun _ => .inl (0, 0, .inl (fun _ => 0))) s.heap [] := ⟨⟨fun k q h => by simp [va_pl, q_Gx, q_L] at h, ⟨fun i j p q h => by simp [va_pl, q_Gx, q_L] at h, fun k q h => by simp [va_pl, q_Gx, q_L] at h⟩, fun a ha => absurd rfl ha⟩, va_S.rf⟩
  have hl := lv_entry ([.ref b]) (n := 4) (Nat.le_of_ble_eq_true rfl)
  rw [lg_entry_eq]
  generalize (lg_sl ([.ref b]) ++ List.replicate (4 - (lg_sl ([.ref b])).length) Slot.unset).toArray = ls at hl ⊢
  have hl : lv_has ls 4 [(0, .ref b)] := hl
  refine q_new (t := 26) hE hBl hW rfl q_k11 tyX11 tyX11_ok wl_0 wl_1 wl_2 (by decide +kernel) rfl (Nat.le_of_ble_eq_true rfl) (Nat.le_of_ble_eq_true rfl) dL_law_0 (fun x1 L1 s1 H hW g1 n1 p1 => ?_)
  refine W.widen (k := 1) (n := 20) (Nat.le_of_ble_eq_true rfl) (Nat.le_of_ble_eq_true rfl) ?_
  refine lv_dup hx hb dL_law_3 rfl ?_
  refine q_initC (n := 0) (As := []) (rest := [.ref x1]) hE hBl hA hW (c_X11_init l G L1 _ s1 x1 p1) wl_8 wl_2 wl_6 wl_7 rfl ⟨by decide, by decide, by decide +kernel⟩ rfl hl.1 rfl (Nat.le_of_ble_eq_true rfl) dL_law_4 ⟨by decide, by decide⟩ ⟨Nat.le_of_ble_eq_true rfl, Nat.le_of_ble_eq_true rfl⟩ (fun L2 T2 s2 H locs hW g2 t1 => ?_)
  have hW2 := hW
  refine W.widen (k := 379) (n := 2863) (Nat.le_of_ble_eq_true rfl) (Nat.le_of_ble_eq_true rfl) ?_
  refine lv_astore_n (lv' := [(1, .ref x1), (0, .ref b)]) hx hb dL_law_7 rfl hl (by decide) rfl (fun ls hl => ?_)
  refine q_new (t := 40) hE hBl hW rfl q_k12 tyX12 tyX12_ok wl_3 wl_4 wl_5 (by decide +kernel) rfl (Nat.le_of_ble_eq_true rfl) (Nat.le_of_ble_eq_true rfl) dL_law_8 (fun x2 L3 s3 H hW g3 n3 p2 => ?_)
  have hW3 := hW
  refine W.widen (k := 380) (n := 2907) (Nat.le_of_ble_eq_true rfl) (Nat.le_of_ble_eq_true rfl) ?_
  refine lv_dup hx hb dL_law_11 rfl ?_
  refine q_initC (n := 0) (As := []) (rest := [.ref x2]) hE hBl hA hW (c_X12_init l G L3 T2 s3 x2 p2) wl_127 wl_5 wl_125 wl_126 rfl ⟨by decide, by decide, by decide +kernel⟩ rfl hl.1 rfl (Nat.le_of_ble_eq_true rfl) dL_law_12 ⟨by decide, by decide⟩ ⟨Nat.le_of_ble_eq_true rfl, Nat.le_of_ble_eq_true rfl⟩ (fun L4 T4 s4 H locs hW g4 t2 => ?_)
  refine W.widen (k := 407) (n := 4557) (Nat.le_of_ble_eq_true rfl) (Nat.le_of_ble_eq_true rfl) ?_
  have t1 : T4 x1 = 26 := q_Gw.tag g4 t1 (by decide)
  refine lv_astore_n (lv' := [(2, .ref x2), (1, .ref x1), (0, .ref b)]) hx hb dL_law_15 rfl hl (by decide) rfl (fun ls hl => ?_)
  refine lv_iconst (v := 0) hx hb dL_law_16 (by decide) ?_
  refine lv_istore_n (lv' := [(3, .int 0), (2, .ref x2), (1, .ref x1), (0, .ref b)]) hx hb dL_law_17 rfl hl (by decide) rfl (fun ls hl => ?_)
  have e12 := q_Gw.tr g1 g2 (Or.inl rfl) rfl (fun a ha => absurd rfl ha)
  have e13 := q_Gw.tr e12 g3 (Or.inr List.not_mem_nil) p2.here.2 (fun a ha => hW2.1.inL a ha)
  have e14 := q_Gw.tr e13 g4 (Or.inr List.not_mem_nil) p2.here.2 (fun a ha => hW3.1.inL a ha)
  exact law_first (G := q_Gx G L4 T4) l hL hE hr hlocks hX hbl hB t1 t2 (q_fr_of (fun a ha => e14.2.2.2 a ha rfl) rfl rfl) ⟨hW.1, q_Fr.rf, hW.2⟩ 0 (by decide) hl
