/-! calls, returns, and how a method begins -/
def q_Rm (d : Nat) : Room := { frames := d, cells := 0, slots := 0, locals := 40 * d }
def q_Pre (G : q_G) (σ : q_S) (as : List Value) : Array Value → State → Prop := va_Pc as (fun U => q_Ow G σ U.heap ∧ q_K G U)
def q_Qi (G : q_G) (ts : List Nat) (σ : q_S) (post : Int32 → q_S → Prop) : Array Value → State → Outcome → State → Prop := va_Qi (fun r σ1 => post r σ1 ∧ q_Fr G ts σ σ1) (fun σ1 t => q_Ow G σ1 t.heap) (q_N G)
def q_Ql (G : q_G) (ts : List Nat) (σ : q_S) (post : Int64 → q_S → Prop) : Array Value → State → Outcome → State → Prop := va_Ql (fun r σ1 => post r σ1 ∧ q_Fr G ts σ σ1) (fun σ1 t => q_Ow G σ1 t.heap) (q_N G)
def q_Qv (G : q_G) (ts : List Nat) (σ : q_S) (post : q_S → Prop) : Array Value → State → Outcome → State → Prop := va_Qv (fun σ1 => post σ1 ∧ q_Fr G ts σ σ1) (fun σ1 t => q_Ow G σ1 t.heap) (q_N G)
def q_Qq (G : q_G) (ts : List Nat) (σ : q_S) (post : Option Nat → q_S → Prop) : Array Value → State → Outcome → State → Prop := va_Qq (fun r σ1 => post r σ1 ∧ q_Fr G ts σ σ1) (fun σ1 t => q_Ow G σ1 t.heap) (q_N G)
theorem q_nest.same {u U : State} (h : q_nest u) (hv : u.vm = U.vm) : q_nest U := by
  have ha : u.vm.Alike U.vm := by rw [hv]; exact Vm.Alike.refl _
  exact ⟨fun w hw => (h.1 w hw).same rfl hv, fun w hw => (h.2.1 w hw).same rfl hv, fun w hw => (h.2.2.1 w hw).same rfl hv, fun w hw => (h.2.2.2.1 w hw).same rfl hv, fun w hw => (h.2.2.2.2.1 w hw).moved ha, fun w hw => (h.2.2.2.2.2 w hw).moved ha⟩
theorem q_K.same {G : q_G} {u U : State} (h : q_K G u) (hv : U.vm = u.vm) (hh : U.heap = u.heap) : q_K G U := by
  obtain ⟨h1, h2, h3, h4, h5, h6⟩ := h
  have ha : u.vm.Alike U.vm := by rw [hv]; exact Vm.Alike.refl _
  rw [← hh] at h3 h5 h6
  exact ⟨h1.moved ha, h2.same hv.symm, h3.moved ha, fun i q hq => (h4 i q hq).same hv, h5.moved ha, h6.moved ha⟩
theorem q_blind {G : q_G} {σ : q_S} {as : List Value} : FrameBlind (q_Pre G σ as) := fun a U g mk h => ⟨h.1, h.2.1, h.2.2.same rfl rfl⟩
theorem q_good {ws : List Cond} (h : ∀ w ∈ ws, w ∈ wsL_law) : GoodIn wsL_law ws := fun w hw => ⟨h w hw, good_of_word (List.all_eq_true.mp wl_good w (h w hw))⟩
theorem q_goodc {c0 : Cond} (h : c0 ∈ wsL_law) : GoodIn wsL_law (c0 :: wsL_law) := q_good (List.forall_mem_cons.mpr ⟨h, fun _ z => z⟩)
theorem q_goodV {own C : String} {idx : Nat} {y : MethodName} {c0 : Cond} (w1 : Cond.methodLink own idx y ∈ wsL_law) (w2 : Cond.instanceMethod y ∈ wsL_law) (w3 : Cond.selects C y y ∈ wsL_law) (w4 : Cond.initialized C ∈ wsL_law) (w5 : c0 ∈ wsL_law) : GoodIn wsL_law (wsV own idx C y (c0 :: wsL_law)) :=
  q_good (List.forall_mem_append.mpr ⟨List.forall_mem_cons.mpr ⟨w1, List.forall_mem_cons.mpr ⟨w2, List.forall_mem_cons.mpr ⟨w3, List.forall_mem_cons.mpr ⟨w4, fun _ h => absurd h List.not_mem_nil⟩⟩⟩⟩, List.forall_mem_cons.mpr ⟨w5, fun _ z => z⟩⟩)
theorem q_goodS {own : String} {idx : Nat} {y : MethodName} {c0 : Cond} (w1 : Cond.methodLink own idx y ∈ wsL_law) (w2 : Cond.static y ∈ wsL_law) (w4 : Cond.initialized own ∈ wsL_law) (w5 : c0 ∈ wsL_law) : GoodIn wsL_law (wsS own idx y (c0 :: wsL_law)) :=
  q_good (List.forall_mem_append.mpr ⟨List.forall_mem_cons.mpr ⟨w1, List.forall_mem_cons.mpr ⟨w2, List.forall_mem_cons.mpr ⟨w4, fun _ h => absurd h List.not_mem_nil⟩⟩⟩, List.forall_mem_cons.mpr ⟨w5, fun _ z => z⟩⟩)
/-- the words of a virtual call -/
def q_wV (own C : String) (index : Nat) (y : MethodName) (bytes : ByteArray) (maxL : Nat) (ret : Option FieldType) (n : Nat) : Prop :=
  GoodIn wsL_law (wsV own index C y (Cond.code y bytes maxL ret :: wsL_law)) ∧ (y.cls = C ∧ y.cls ≠ "java/lang/invoke/MethodHandle" ∧ y.cls ≠ "java/lang/invoke/VarHandle" ∧ (parseMethodDescriptor y.desc).map (fun d => d.parameters.length) = some n)
def q_wS (own : String) (index : Nat) (y : MethodName) (bytes : ByteArray) (maxL : Nat) (ret : Option FieldType) (n : Nat) : Prop :=
  (Cond.methodLink own index y ∈ wsL_law ∧ Cond.static y ∈ wsL_law ∧ Cond.initialized y.cls ∈ wsL_law ∧ Cond.code y bytes maxL ret ∈ wsL_law) ∧ (y.cls ≠ "java/lang/invoke/MethodHandle" ∧ y.cls ≠ "java/lang/invoke/VarHandle" ∧ (parseMethodDescriptor y.desc).map (fun d => d.parameters.length) = some n)
section QC
variable {p : Program} {l : Launch} {e : Env} {R : Room} {s : State} {m : MethodId} {args : Array Value} {below : List Frame} {meth : Method} {c : Code} {H : Heap} {locs : List Loc} {cells slots : Nat} {Q : State → Prop}
variable {cc bytes : ByteArray} {nL pc d maxL n index : Nat} {own C : String} {y : MethodName} {ret : Option FieldType} {ls : Array Slot} {As rest st0 : List Value} {G : q_G} {σ σ0 : q_S} {ts t1 : List Nat} {b : Nat}
theorem q_runV {Qc : Array Value → State → Outcome → State → Prop} (hE : q_E G p s m args c cc nL own) (hW : q_Wd G ts σ0 s.heap σ H locs) (hM : Met l y (Cond.code y bytes maxL ret :: wsL_law) (q_Rm d) (q_Pre G σ (.ref b :: As)) Qc 0 0 (q_N G)) (hw : q_wV own C index y bytes maxL ret n)
    (hrv : ∃ cell : Cell, H[b]? = some cell ∧ cell.vm.isStatics = false ∧ s.vm.findClass C = some cell.cls) (hn : As.length = n) (hsz : ls.size = nL) (hst : st0 = As.reverse ++ .ref b :: rest) (hrest : (rest.map fun v => v.category).sum ≤ 8) (hdg : decode cc pc = .ok (.invokevirtual index, 3)) (hR : (q_Rm d).frames + 1 ≤ R.frames ∧ 8 + (maxL + 11) + (q_Rm d).locals ≤ R.locals) (hf : cells + 0 ≤ R.cells ∧ slots + 0 ≤ R.slots) :
    va_Run p l e R s m args below meth c H locs cells slots 0 0 (F0 m pc ls st0) rest (Qc (Value.ref b :: As).toArray) (q_N G) :=
  va_runV (nL := nL) hE.1 hM (cwV n hE.1.2.2.2.2 hw.1 rfl rfl rfl hw.2 hR) ⟨q_blind, hrv, fun U hU hW' => ⟨rfl, by rw [hU]; exact hW.1, hE.2.go hW' hW.2.2 hU⟩⟩ rfl hn hsz hst (lv_room hrest) hdg hf
theorem q_runS {Qc : Array Value → State → Outcome → State → Prop} (hE : q_E G p s m args c cc nL own) (hW : q_Wd G ts σ0 s.heap σ H locs) (hM : Met l y (Cond.code y bytes maxL ret :: wsL_law) (q_Rm d) (q_Pre G σ As) Qc 0 0 (q_N G)) (hw : q_wS own index y bytes maxL ret n)
    (hn : As.length = n) (hsz : ls.size = nL) (hst : st0 = As.reverse ++ rest) (hrest : (rest.map fun v => v.category).sum ≤ 8) (hdg : decode cc pc = .ok (.invokestatic index, 3)) (hR : (q_Rm d).frames + 1 ≤ R.frames ∧ 8 + (maxL + 11) + (q_Rm d).locals ≤ R.locals) (hf : cells + 0 ≤ R.cells ∧ slots + 0 ≤ R.slots) :
    va_Run p l e R s m args below meth c H locs cells slots 0 0 (F0 m pc ls st0) rest (Qc As.toArray) (q_N G) :=
  va_runS (nL := nL) hE.1 hM ⟨callB_of n hE.1.2.2.2.2 (q_goodc hw.1.2.2.2) rfl rfl rfl (hE.w hw.1.2.2.1) (hE.w hw.1.1) hw.2 hR, hE.w hw.1.2.1⟩ ⟨q_blind, fun U hU hW' => ⟨rfl, by rw [hU]; exact hW.1, hE.2.go hW' hW.2.2 hU⟩⟩ rfl hn hsz hst (lv_room hrest) hdg hf
theorem q_goi {a : Array Value} {post : Int32 → q_S → Prop} (hW : q_Wd G ts σ0 s.heap σ H locs) (hr : va_Run p l e R s m args below meth c H locs cells slots 0 0 (F0 m pc ls st0) rest (q_Qi G t1 σ post a) (q_N G)) (hi : ∀ t ∈ t1, t ∈ ts)
    (kk : ∀ (r : Int32) (σ1 : q_S) (H1 : Heap) (locs1 : List Loc), post r σ1 → q_Fr G t1 σ σ1 → q_Wd G ts σ0 s.heap σ1 H1 locs1 → W p l e R s m args below meth c H1 locs1 cells slots Q (F0 m (pc + 3) ls (.int r :: rest))) : W p l e R s m args below meth c H locs cells slots Q (F0 m pc ls st0) :=
  va_calli hr hW.2.2 (fun _ _ h => h) (fun _ h => h) fun r σ1 t H1 locs1 ht hvm hp hB hz hk hS => kk r σ1 H1 locs1 hp.1 hp.2 ⟨by rw [← ht]; exact hB, hW.2.1.tr hp.2 (fun _ z => z) hi, hS⟩
theorem q_gol {a : Array Value} {post : Int64 → q_S → Prop} (hW : q_Wd G ts σ0 s.heap σ H locs) (hr : va_Run p l e R s m args below meth c H locs cells slots 0 0 (F0 m pc ls st0) rest (q_Ql G t1 σ post a) (q_N G)) (hi : ∀ t ∈ t1, t ∈ ts)
    (kk : ∀ (r : Int64) (σ1 : q_S) (H1 : Heap) (locs1 : List Loc), post r σ1 → q_Fr G t1 σ σ1 → q_Wd G ts σ0 s.heap σ1 H1 locs1 → W p l e R s m args below meth c H1 locs1 cells slots Q (F0 m (pc + 3) ls (.long r :: rest))) : W p l e R s m args below meth c H locs cells slots Q (F0 m pc ls st0) :=
  va_calll hr hW.2.2 (fun _ _ h => h) (fun _ h => h) fun r σ1 t H1 locs1 ht hvm hp hB hz hk hS => kk r σ1 H1 locs1 hp.1 hp.2 ⟨by rw [← ht]; exact hB, hW.2.1.tr hp.2 (fun _ z => z) hi, hS⟩
theorem q_gov {a : Array Value} {post : q_S → Prop} (hW : q_Wd G ts σ0 s.heap σ H locs) (hr : va_Run p l e R s m args below meth c H locs cells slots 0 0 (F0 m pc ls st0) rest (q_Qv G t1 σ post a) (q_N G)) (hi : ∀ t ∈ t1, t ∈ ts)
    (kk : ∀ (σ1 : q_S) (H1 : Heap) (locs1 : List Loc), post σ1 → q_Fr G t1 σ σ1 → q_Wd G ts σ0 s.heap σ1 H1 locs1 → W p l e R s m args below meth c H1 locs1 cells slots Q (F0 m (pc + 3) ls rest)) : W p l e R s m args below meth c H locs cells slots Q (F0 m pc ls st0) :=
  va_callv hr hW.2.2 (fun _ _ h => h) (fun _ h => h) fun σ1 t H1 locs1 ht hvm hp hB hz hk hS => kk σ1 H1 locs1 hp.1 hp.2 ⟨by rw [← ht]; exact hB, hW.2.1.tr hp.2 (fun _ z => z) hi, hS⟩
theorem q_goq {a : Array Value} {post : Option Nat → q_S → Prop} (hW : q_Wd G ts σ0 s.heap σ H locs) (hr : va_Run p l e R s m args below meth c H locs cells slots 0 0 (F0 m pc ls st0) rest (q_Qq G t1 σ post a) (q_N G)) (hi : ∀ t ∈ t1, t ∈ ts)
    (kn : ∀ (σ1 : q_S) (H1 : Heap) (locs1 : List Loc), post none σ1 → q_Fr G t1 σ σ1 → q_Wd G ts σ0 s.heap σ1 H1 locs1 → W p l e R s m args below meth c H1 locs1 cells slots Q (F0 m (pc + 3) ls (.null :: rest)))
    (kk : ∀ (r : Nat) (σ1 : q_S) (H1 : Heap) (locs1 : List Loc), post (some r) σ1 → q_Fr G t1 σ σ1 → q_Wd G ts σ0 s.heap σ1 H1 locs1 → W p l e R s m args below meth c H1 locs1 cells slots Q (F0 m (pc + 3) ls (.ref r :: rest))) : W p l e R s m args below meth c H locs cells slots Q (F0 m pc ls st0) :=
  va_callq hr hW.2.2 (fun _ _ h => h) (fun _ h => h) fun r σ1 t H1 locs1 ht hvm hp hB hz hk hS => by
    have hw : q_Wd G ts σ0 s.heap σ1 H1 locs1 := ⟨by rw [← ht]; exact hB, hW.2.1.tr hp.2 (fun _ z => z) hi, hS⟩
    cases r with
    | none => exact kn σ1 H1 locs1 hp.1 hp.2 hw
    | some r => exact kk r σ1 H1 locs1 hp.1 hp.2 hw
/-- how a method begins -/
theorem q_ofW {Qc : Array Value → State → Outcome → State → Prop} {as : List Value} (hy : plainName y.cls = true) (hlen : (lg_sl as).length ≤ maxL)
    (body : ∀ p e s m args below meth c, q_E G p s m args c bytes maxL y.cls → meth.sig.returnType = ret → meth.locks = false → q_Wd G ts σ s.heap σ s.heap [] → ∀ ls, lv_has ls maxL (lv_args 0 as) → W p l e (q_Rm d) s m args below meth c s.heap [] 0 0 (MQ below Qc args s 0 0 (q_N G)) (F0 m 0 ls [])) : Met l y (Cond.code y bytes maxL ret :: wsL_law) (q_Rm d) (q_Pre G σ as) Qc 0 0 (q_N G) := by
  refine Met.ofW (cc := bytes) (maxL := maxL) (ret := ret) hy rfl ?_
  intro p e s m args below meth c s₁ B hml hv
  obtain ⟨rfl, hO, hK⟩ := hv
  have hts := atoms_spec (ws := Cond.code y bytes maxL ret :: wsL_law) B.pre
  have hown : s.vm.findClass y.cls = some m.cls := findClass_of_methodNamed B.named
  have hl := lv_entry as (n := maxL) hlen
  rw [lg_entry_eq]
  generalize (lg_sl as ++ List.replicate (maxL - (lg_sl as).length) Slot.unset).toArray = ls at hl ⊢
  exact body p e s m _ below meth c ⟨⟨B.exec, B.bytes, hml, hown, fun w h => hts w (List.mem_cons_of_mem _ h)⟩, hK⟩ B.returns B.notSynchronized ⟨hO, q_Fr.rf, va_S.rf⟩ ls hl
theorem q_reti {post : Int32 → q_S → Prop} {v : Int32} (hE : q_E G p s m args c cc nL own) (hr : meth.sig.returnType = some .int) (hlocks : meth.locks = false) (hW : q_Wd G ts σ0 s.heap σ H locs) (hp : post v σ) (hdg : decode cc pc = .ok (.ireturn, 1)) : W p l e R s m args below meth c H locs cells slots (MQ below (q_Qi G ts σ0 post) args s cells slots (q_N G)) (F0 m pc ls [.int v]) :=
  W.iret hE.1.1 hE.1.2.1 hr (fun t ht _ => ⟨⟨v, σ, rfl, ⟨hp, hW.2.1⟩, by show q_Ow G σ t.heap; rw [ht]; exact hW.1⟩, hW.2.2.F ht⟩) hW.2.2.2.2 hdg hlocks
theorem q_retz {post : Int32 → q_S → Prop} {v : Int32} (hE : q_E G p s m args c cc nL own) (hr : meth.sig.returnType = some .boolean) (hlocks : meth.locks = false) (hW : q_Wd G ts σ0 s.heap σ H locs) (hz : v = 0 ∨ v = 1) (hp : post v σ) (hdg : decode cc pc = .ok (.ireturn, 1)) : W p l e R s m args below meth c H locs cells slots (MQ below (q_Qi G ts σ0 post) args s cells slots (q_N G)) (F0 m pc ls [.int v]) :=
  W.zret hE.1.1 hE.1.2.1 hr (by rcases hz with rfl | rfl <;> rfl) (fun t ht _ => ⟨⟨v, σ, rfl, ⟨hp, hW.2.1⟩, by show q_Ow G σ t.heap; rw [ht]; exact hW.1⟩, hW.2.2.F ht⟩) hW.2.2.2.2 hdg hlocks
theorem q_retc {post : Int32 → q_S → Prop} {v : Int32} (hE : q_E G p s m args c cc nL own) (hr : meth.sig.returnType = some .char) (hlocks : meth.locks = false) (hW : q_Wd G ts σ0 s.heap σ H locs) (hz : narrow .char (.int v) = .int v) (hp : post v σ) (hdg : decode cc pc = .ok (.ireturn, 1)) : W p l e R s m args below meth c H locs cells slots (MQ below (q_Qi G ts σ0 post) args s cells slots (q_N G)) (F0 m pc ls [.int v]) :=
  W.zret hE.1.1 hE.1.2.1 hr hz (fun t ht _ => ⟨⟨v, σ, rfl, ⟨hp, hW.2.1⟩, by show q_Ow G σ t.heap; rw [ht]; exact hW.1⟩, hW.2.2.F ht⟩) hW.2.2.2.2 hdg hlocks
theorem q_retl {post : Int64 → q_S → Prop} {v : Int64} (hE : q_E G p s m args c cc nL own) (hr : meth.sig.returnType = some .long) (hlocks : meth.locks = false) (hW : q_Wd G ts σ0 s.heap σ H locs) (hp : post v σ) (hdg : decode cc pc = .ok (.lreturn, 1)) : W p l e R s m args below meth c H locs cells slots (MQ below (q_Ql G ts σ0 post) args s cells slots (q_N G)) (F0 m pc ls [.long v]) :=
  W.lret hE.1.1 hE.1.2.1 hr (fun t ht _ => ⟨⟨v, σ, rfl, ⟨hp, hW.2.1⟩, by show q_Ow G σ t.heap; rw [ht]; exact hW.1⟩, hW.2.2.F ht⟩) hW.2.2.2.2 hdg hlocks
theorem q_retv {post : q_S → Prop} (hE : q_E G p s m args c cc nL own) (hr : meth.sig.returnType = none) (hlocks : meth.locks = false) (hW : q_Wd G ts σ0 s.heap σ H locs) (hp : post σ) (hdg : decode cc pc = .ok (.return_, 1)) : W p l e R s m args below meth c H locs cells slots (MQ below (q_Qv G ts σ0 post) args s cells slots (q_N G)) (F0 m pc ls []) :=
  W.vret hE.1.1 hE.1.2.1 hr (fun t ht _ => ⟨⟨σ, rfl, ⟨hp, hW.2.1⟩, by show q_Ow G σ t.heap; rw [ht]; exact hW.1⟩, hW.2.2.F ht⟩) hW.2.2.2.2 hdg hlocks
theorem q_retq {post : Option Nat → q_S → Prop} {o : String} (v : Option Nat) (hE : q_E G p s m args c cc nL own) (hr : meth.sig.returnType = some (.object o)) (hlocks : meth.locks = false) (hW : q_Wd G ts σ0 s.heap σ H locs) (hp : post v σ) (hdg : decode cc pc = .ok (.areturn, 1)) : W p l e R s m args below meth c H locs cells slots (MQ below (q_Qq G ts σ0 post) args s cells slots (q_N G)) (F0 m pc ls [va_rf v]) :=
  W.aret hE.1.1 hE.1.2.1 hr (Or.inl ⟨o, rfl⟩) (va_rf_or v) (fun t ht _ => ⟨⟨v, σ, rfl, ⟨hp, hW.2.1⟩, by show q_Ow G σ t.heap; rw [ht]; exact hW.1⟩, hW.2.2.F ht⟩) hW.2.2.2.2 hdg hlocks
end QC
