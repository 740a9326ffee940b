/-! the rows of constructors -/
/-- the tables know the class of rows of rows of ints -/
def q_AA (U : State) : Prop := (Cond.arrayOver (.array .int)).before #[] U = true
theorem q_AA.moved {u U : State} (hvm : u.vm.Alike U.vm) (h : q_AA u) : q_AA U := by
  obtain ⟨comp, c, k, h1, h2, h3, h4, h5⟩ := arrayOverA_spec h
  obtain ⟨k', hk', he⟩ := hvm.2.2 _ _ h3
  have hi : (U.vm.classes.findIdx? fun (x : Class) => match x.kind with | .array component _ => component == comp | _ => false) = some c := by
    refine (va_idx_bare U.vm comp).symm.trans ?_
    first | rw [hvm.bare_eq] | rw [← hvm.bare_eq]
    exact (va_idx_bare u.vm comp).trans h2
  have hkind : k'.kind = .array comp (.array .int) := by rw [he]; exact h4
  have f1 : U.vm.findClass (FieldType.array FieldType.int).toString = some comp := by rw [hvm.findClass]; exact h1
  have f2 : U.vm.findClass ("[" ++ (FieldType.array FieldType.int).toString) = some c := by rw [hvm.findClass]; exact h5
  unfold q_AA Cond.before Cond.holds
  simp only [Cond.value]
  rw [f1, Option.bind_some]
  refine (congrArg (fun o : Option Nat => (o.bind (fun c => (U.vm.classes[c]?).map fun (k : Class) => match k.kind with | .array _ ty => decide (ty = FieldType.array FieldType.int) && decide (U.vm.findClass ("[" ++ (FieldType.array FieldType.int).toString) = some c) | _ => false) == some true)) hi).trans ?_
  simp [hk', hkind, f2]
theorem q_RAuq {U : State} {c1 c2 : ClassId} {ty : FieldType} (h1 : va_RA U c1 ty) (h2 : va_RA U c2 ty) : c1 = c2 := by
  cases ty with
  | object C =>
    obtain ⟨-, -, -, -, -, e1⟩ := h1
    obtain ⟨-, -, -, -, -, e2⟩ := h2
    exact Option.some.inj (e1.symm.trans e2)
  | _ => exact Option.some.inj (Eq.trans (Eq.symm h1) h2)
def q_PreC (G : q_G) (L : List Nat) (T : Nat → Nat) (σ : q_S) (as : List Value) : Array Value → State → Prop := va_Pc as (fun U => (q_Ow (q_Gx G L T) σ U.heap ∧ q_B G ≤ U.heap.size ∧ q_AA U) ∧ q_K G U)
def q_QcC (G : q_G) (L : List Nat) (T : Nat → Nat) (σ : q_S) (a t : Nat) : Array Value → State → Outcome → State → Prop := va_Qv (S := List Nat × (Nat → Nat) × q_S) (fun u => q_Gw L T σ u.1 u.2.1 u.2.2 a ∧ u.2.1 a = t) (fun u st => q_Ow (q_Gx G u.1 u.2.1) u.2.2 st.heap) (q_N G)
def q_Rc (d mc ms : Nat) : Room := { frames := d, cells := mc, slots := ms, locals := 40 * d }
theorem q_blindC {G : q_G} {L : List Nat} {T : Nat → Nat} {σ : q_S} {as : List Value} : FrameBlind (q_PreC G L T σ as) := fun a U g mk h => ⟨h.1, ⟨h.2.1.1, h.2.1.2.1, q_AA.moved (u := U) (U := U.calling g mk a) (Vm.Alike.refl U.vm) h.2.1.2.2⟩, h.2.2.same rfl rfl⟩
/-- one cell more -/
theorem q_push {D : va_G} {A : Nat → Prop} {L : List Nat} {σ : q_S} {q : Nat} {e : va_E} {H1 : Heap} (hP : va_P D vwCl (va_pl L σ ++ [(q, e)]) H1) (hD : va_D A (va_pl L σ ++ [(q, e)])) : q ∉ L ∧ va_P D vwCl (va_pl (L ++ [q]) (va_up σ q e)) H1 ∧ va_D A (va_pl (L ++ [q]) (va_up σ q e)) := by
  have hn : q ∉ L := fun h => by
    obtain ⟨k, hk⟩ := va_pl_get (X := []) (f := σ) h
    rw [List.nil_append] at hk
    have hl := (List.getElem?_eq_some_iff.mp hk).1
    have := hD.1 k (va_pl L σ).length (q, σ q) (q, e) (by rw [List.getElem?_append_left hl]; exact hk) (by simp) rfl
    omega
  rw [va_pl_push hn] at hP hD
  exact ⟨hn, hP, hD⟩
section QH
variable {p : Program} {l : Launch} {e : Env} {R : Room} {s : State} {m : MethodId} {args : Array Value} {below : List Frame} {meth : Method} {c : Code} {H : Heap} {locs : List Loc} {cells slots : Nat} {Q : State → Prop}
variable {cc bytes : ByteArray} {nL pc d maxL n index mc ms : Nat} {own C : String} {y : MethodName} {ls : Array Slot} {As rest st0 : List Value} {G : q_G} {L : List Nat} {T : Nat → Nat} {σ : q_S} {a b t : Nat} {dn : List Nat} {ex : List (Nat × Nat)} {H0 : Heap}
/-- one cell more, not told -/
theorem q_addC (hW : q_Wc G H0 L T σ H locs) {q : Nat} {e9 : va_E} {H1 : Heap} (hP : va_P (q_D G) vwCl (va_pl L σ ++ [(q, e9)]) H1) (hD : va_D (q_N G) (va_pl L σ ++ [(q, e9)])) (hS : va_S (q_N G) H0 H1 locs) : q_Wc G H0 (L ++ [q]) T (va_up σ q e9) H1 locs ∧ q_Gw L T σ (L ++ [q]) T (va_up σ q e9) q ∧ q ∉ L ∧ T q = 0 ∧ q ∈ L ++ [q] ∧ va_up σ q e9 q = e9 := by
  obtain ⟨hn, hP', hD'⟩ := q_push hP hD
  have h0 : T q = 0 := Classical.byContradiction fun h => hn (hW.1.inL q h)
  refine ⟨⟨⟨hP', hD', fun x hx => ?_⟩, hS⟩, ⟨fun x hx => List.mem_append_left _ hx, fun _ _ => rfl, fun x hx hne => ⟨rfl, fun _ => va_up_ne _ _ hne⟩, fun x h1 h2 => absurd h2 h1⟩, hn, h0, by simp, va_up_self _ _ _⟩
  obtain ⟨g1, g2⟩ := hW.1.2.2 x hx
  have hne : x ≠ q := fun e => hn (e ▸ g1)
  refine ⟨List.mem_append_left _ g1, ?_⟩
  rw [va_up_ne _ _ hne]
  exact q_ok.mono (G := G) (L := L) (L' := L ++ [q]) (T := T) (T' := T) (fun _ _ => rfl) g2
def q_v0 (fs : List (Nat × Int × Int)) : List Value := fs.map (fun q => if q.1 = 0 then .int 0 else .null)
theorem q_new (hE : q_E G p s m args c cc nL own) (hB : q_B G ≤ s.heap.size) (hW : q_Wc G s.heap L T σ H locs) {ci : Nat} {fs : List (Nat × Int × Int)} (hs : q_sO t = some (ci, fs)) {TT : u_T} {N : Nat} (hc : q_cls ci C TT N) (ty : Nat → FieldType) (hty : ∀ k, k < N → parseFieldDescriptor (TT k).2.2.1 = some (ty k)) (hcl : Cond.classLink own index C ∈ wsL_law) (hinst : Cond.instantiable C N ∈ wsL_law) (hini : Cond.initialized C ∈ wsL_law) (hfs : ∀ j, j < N → defaultValue (ty j) = vp_V (q_v0 fs) j) (hf01 : fs.all (fun q => q.1 == 0 || q.1 == 1) = true) (hcells : cells + 1 ≤ R.cells) (hslots : slots + N ≤ R.slots) (hdg : decode cc pc = .ok (.new index, 3))
    (kk : ∀ (q : Nat) (L1 : List Nat) (σ1 : q_S) (H1 : Heap), q_Wc G s.heap L1 T σ1 H1 locs → q_Gw L T σ L1 T σ1 q → q ∉ L → q_Po L1 T σ1 q t [] [] → W p l e R s m args below meth c H1 locs (cells + 1) (slots + N) Q (F0 m (pc + 3) ls (.ref q :: rest))) : W p l e R s m args below meth c H locs cells slots Q (F0 m pc ls rest) := by
  refine va_new hE.1.1 hE.1.2.1 hE.1.2.2.2.2 hc.2.1 ty hty hE.1.2.2.2.1 (hE.w hcl) (hE.w hinst) (hE.w hini) hE.2.1 hW.1.1 hW.1.2.1 hW.2 (fun q h => Nat.le_trans hB h) hc.1 hfs hcells hslots hdg fun q H1 h1 h2 h3 => ?_
  obtain ⟨g1, g2, g3, g4, g5, g6⟩ := q_addC hW h1 h2 h3
  refine kk q _ _ H1 g1 g2 g3 ⟨g5, g4, _, _, hs, g6, by simp [q_v0], fun k q' hq => ⟨fun h0 => ?_, fun _ h => by cases h⟩, fun x h => by cases h⟩
  simp [q_v0, List.getElem?_map, hq, h0]
theorem q_newI (hE : q_E G p s m args c cc nL own) (hB : q_B G ≤ s.heap.size) (hW : q_Wc G s.heap L T σ H locs) {ci N : Nat} (t : Nat) (hs : q_sI t = some (ci, N)) {ty : FieldType} {atype : ArrayType} (hat : newarray.typeOf atype = ty) (hty : (q_tys (q_C G))[ci]? = some (q_C G ci, ty)) (hdv : defaultValue ty = .int 0) (harr : Cond.arrayClass ty ∈ wsL_law) {k : Int32} (hk : ¬ k < 0) (hkN : k.toNatClampNeg = N) (hby : N * componentBytes ty ≤ 536870912) (ht : t ≠ 0) (hcells : cells + 1 ≤ R.cells) (hslots : slots + N ≤ R.slots) (hdg : decode cc pc = .ok (.newarray atype, 2))
    (kk : ∀ (q : Nat) (L1 : List Nat) (T1 : Nat → Nat) (σ1 : q_S) (H1 : Heap), q_Wc G s.heap L1 T1 σ1 H1 locs → q_Gw L T σ L1 T1 σ1 q → q ∉ L → T q = 0 → T1 q = t → W p l e R s m args below meth c H1 locs (cells + 1) (slots + N) Q (F0 m (pc + 2) ls (.ref q :: rest))) : W p l e R s m args below meth c H locs cells slots Q (F0 m pc ls (.int k :: rest)) := by
  subst hat
  refine va_newa (a0 := (N, .inl (fun _ => 0))) hE.1.1 hE.1.2.1 (hE.w harr) rfl hE.2.1 hW.1.1 hW.1.2.1 hW.2 (fun q h => Nat.le_trans hB h) (fun cA => by rw [hdv]; rfl) hk hkN hby hcells hslots hdg fun q cA H1 h0 h1 h2 h3 => ?_
  have hcA : cA = q_C G ci := q_RAuq (h0.2 (q_tys (q_C G)).length (cA, newarray.typeOf atype) (by simp)).2 (hE.2.1.2 ci _ hty).2
  subst hcA
  obtain ⟨g1, g2, g3, g4, g5, g6⟩ := q_addC hW h1 h2 h3
  obtain ⟨k1, k2, k3⟩ := q_tell (t := t) g1 g5 g4 (by rw [g6]; exact q_okarr (G := q_Gx G (L ++ [q]) (va_up T q t)) hs (fun i _ => q_epZ hs i)) (by
    rw [g6]
    refine ⟨fun o k lo hi h8 => ?_, fun o i h8 hi => Or.inr (Or.inr rfl)⟩
    rw [(q_sI_O h8).1] at hs; cases hs)
  exact kk q _ _ _ H1 k1 (q_Gw.tr g2 k2 (Or.inl rfl) g4 (fun x hx => g1.1.inL x hx)) g3 g4 k3
theorem q_newR (hE : q_E G p s m args c cc nL own) (hB : q_B G ≤ s.heap.size) (hW : q_Wc G s.heap L T σ H locs) {ci N lo hi : Nat} (t : Nat) (hs : q_sR t = some (ci, N, lo, hi)) (hty : (q_tys (q_C G))[ci]? = some (q_C G ci, .object C)) (hcl : Cond.classLink own index C ∈ wsL_law) (hAO : C ∈ q_nO) {k : Int32} (hk : ¬ k < 0) (hkN : k.toNatClampNeg = N) (hby : N * 4 ≤ 536870912) (hcells : cells + 1 ≤ R.cells) (hslots : slots + N ≤ R.slots) (hdg : decode cc pc = .ok (.anewarray index, 3))
    (kk : ∀ (q : Nat) (L1 : List Nat) (σ1 : q_S) (H1 : Heap), q_Wc G s.heap L1 T σ1 H1 locs → q_Gw L T σ L1 T σ1 q → q ∉ L → q_Pr G L1 T σ1 q t 0 → W p l e R s m args below meth c H1 locs (cells + 1) (slots + N) Q (F0 m (pc + 3) ls (.ref q :: rest))) : W p l e R s m args below meth c H locs cells slots Q (F0 m pc ls (.int k :: rest)) := by
  refine va_newq hE.1.1 hE.1.2.1 hE.1.2.2.2.1 (hE.w hcl) (hE.2.2.1.2.2.2.2.2 C hAO) hE.2.1 hW.1.1 hW.1.2.1 hW.2 (fun q h => Nat.le_trans hB h) hk hkN hby hcells hslots hdg fun q cA H1 h0 h1 h2 h3 => ?_
  have hcA : cA = q_C G ci := q_RAuq (h0.2 (q_tys (q_C G)).length (cA, .object C) (by simp)).2 (hE.2.1.2 ci _ hty).2
  subst hcA
  obtain ⟨g1, g2, g3, g4, g5, g6⟩ := q_addC hW h1 h2 h3
  exact kk q _ _ H1 g1 g2 g3 ⟨g5, g4, _, _, hs, g6, fun i hi => absurd hi (Nat.not_lt_zero i)⟩
/-- a reference into a final field of the object on its way -/
theorem q_Po.set (hW : q_Wc G H0 L T σ H locs) (h : q_Po L T σ a t dn ex) {o : Nat × List (Nat × Int × Int)} (ho : q_sO t = some o) (k : Nat) {q : Nat × Int × Int} (hf : o.2[k]? = some q) (hkd : k ∉ dn) (hkx : ∀ x ∈ ex, x.1 ≠ k) {v : Value} (hv0 : q.1 = 0 → v = .int (q_iv t k)) :
    ∃ (vs : List Value) (q0 : Nat), (va_pl L σ)[q0]? = some (a, .inr (o.1, vs)) ∧ k < vs.length ∧ ∀ (H1 : Heap) (locs1 : List Loc), va_P (q_D G) vwCl ((va_pl L σ).set q0 (a, .inr (o.1, vs.set k v))) H1 → va_D (q_N G) ((va_pl L σ).set q0 (a, .inr (o.1, vs.set k v))) → va_S (q_N G) H0 H1 locs1 → ∃ σ1 : q_S, q_Wc G H0 L T σ1 H1 locs1 ∧ q_Gw L T σ L T σ1 a ∧ (q.1 = 1 → ∀ r : Nat, v = .ref r → q_Po L T σ1 a t dn ((k, r) :: ex)) ∧ (q.1 = 0 → q_Po L T σ1 a t (k :: dn) ex) := by
  obtain ⟨g1, g2, o', vs, h3, h4, h5, h6, h7⟩ := h
  cases ho.symm.trans h3
  obtain ⟨q0, hq⟩ := va_pl_get (X := []) (f := σ) g1
  have hst := va_pl_set (X := []) (L := L) (e := .inr (o.1, vs.set k v)) (show va_D (q_N G) ([] ++ va_pl L σ) from hW.1.2.1) g1 hq
  rw [List.nil_append, List.nil_append] at hst
  rw [List.nil_append, h4] at hq
  have hl : k < vs.length := by rw [h5]; exact (List.getElem?_eq_some_iff.mp hf).1
  refine ⟨vs, q0, hq, hl, fun H1 locs1 h1 h2 h8 => ?_⟩
  rw [hst] at h1 h2
  have hWc : q_Wc G H0 L T (va_up σ a (.inr (o.1, vs.set k v))) H1 locs1 := ⟨⟨h1, h2, fun x hx => by
    obtain ⟨e1, e2⟩ := hW.1.2.2 x hx
    have hne : x ≠ a := fun e => hx (e ▸ g2)
    exact ⟨e1, by rw [va_up_ne _ _ hne]; exact e2⟩⟩, h8⟩
  refine ⟨_, hWc, ⟨fun _ z => z, fun _ _ => rfl, fun x _ hne => ⟨rfl, fun _ => va_up_ne _ _ hne⟩, fun x z1 z2 => absurd z2 z1⟩, fun hq1 r hr => ?_, fun hq0 => ?_⟩
  · subst hr
    refine ⟨g1, g2, o, _, ho, va_up_self _ _ _, by rw [List.length_set]; exact h5, fun j q' hj => ?_, fun x hx => ?_⟩
    · by_cases e : j = k
      · subst e
        cases hj.symm.trans hf
        exact ⟨fun z => (by rw [hq1] at z; cases z), fun _ z => absurd z hkd⟩
      · rw [List.getElem?_set_ne (Ne.symm e)]
        exact h6 j q' hj
    · rcases List.mem_cons.mp hx with rfl | hx
      · exact List.getElem?_set_self hl
      · rw [List.getElem?_set_ne (Ne.symm (hkx x hx))]
        exact h7 x hx
  · refine ⟨g1, g2, o, _, ho, va_up_self _ _ _, by rw [List.length_set]; exact h5, fun j q' hj => ?_, fun x hx => ?_⟩
    · by_cases e : j = k
      · subst e
        cases hj.symm.trans hf
        refine ⟨fun z => ?_, fun z => (by rw [hq0] at z; cases z)⟩
        rw [List.getElem?_set_self hl, hv0 hq0]
        simp
      · rw [List.getElem?_set_ne (Ne.symm e)]
        refine ⟨fun z => ?_, fun z zz => (h6 j q' hj).2 z ((List.mem_cons.mp zz).resolve_left e)⟩
        rw [(h6 j q' hj).1 z]
        simp [e]
    · rw [List.getElem?_set_ne (Ne.symm (hkx x hx))]
      exact h7 x hx
theorem q_putF (hE : q_E G p s m args c cc nL own) (hW : q_Wc G s.heap L T σ H locs) (h : q_Po L T σ a t dn ex) {ci : Nat} {fs : List (Nat × Int × Int)} (hs : q_sO t = some (ci, fs)) {TT : u_T} {N : Nat} (hc : q_cls ci C TT N) (ty0 : Nat → FieldType) (hty : ∀ k, k < N → parseFieldDescriptor (TT k).2.2.1 = some (ty0 k)) (k : Nat) (hk : k < N) {lo hi : Int} (hf : fs[k]? = some (1, lo, hi)) (hl : Cond.fieldLink own index (TT k).1 (TT k).2.1 (TT k).2.2.1 ∈ wsL_law) (hfin : (TT k).2.2.2 = true) (hin : meth.name = "<init>") (hdecl : (TT k).1 = own) {r : Nat} (hn : narrow (ty0 k) (.ref r) = .ref r) (hfit : fits (ty0 k) (.ref r) = true) (hkd : k ∉ dn) (hkx : (ex.map Prod.fst).all (fun j => j != k) = true) (hdg : decode cc pc = .ok (.putfield index, 3))
    (kk : ∀ (σ1 : q_S) (H1 : Heap) (locs1 : List Loc), q_Wc G s.heap L T σ1 H1 locs1 → q_Gw L T σ L T σ1 a → q_Po L T σ1 a t dn ((k, r) :: ex) → W p l e R s m args below meth c H1 locs1 cells slots Q (F0 m (pc + 3) ls rest)) : W p l e R s m args below meth c H locs cells slots Q (F0 m pc ls (.ref r :: .ref a :: rest)) := by
  obtain ⟨vs, q0, hq, hlv, hgo⟩ := q_Po.set hW h hs k hf hkd (fun x hx => by have h9 := List.all_eq_true.mp hkx x.1 (List.mem_map.mpr ⟨x, hx, rfl⟩); simpa using h9) (v := .ref r) (fun z => by cases z)
  refine va_putF hE.1.1 hE.1.2.1 hE.1.2.2.2.2 hc.2.1 ty0 hty hc.2.2 hE.1.2.2.2.1 hE.2.1 hW.1.1 hW.1.2.1 hW.2 q0 hq hc.1 k hk (hE.w hl) (fun _ z => z) hfin hin hdecl (hty k hk) hn hfit hlv hdg fun H1 locs1 h1 h2 h3 => ?_
  obtain ⟨σ1, e1, e2, e3, -⟩ := hgo H1 locs1 h1 h2 h3
  exact kk σ1 H1 locs1 e1 e2 (e3 rfl r rfl)
theorem q_putR (hE : q_E G p s m args c cc nL own) (hW : q_Wc G s.heap L T σ H locs) (h : q_Po L T σ a t dn ex) {ci : Nat} {fs : List (Nat × Int × Int)} (hs : q_sO t = some (ci, fs)) {TT : u_T} {N : Nat} (hc : q_cls ci C TT N) (ty0 : Nat → FieldType) (hty : ∀ k, k < N → parseFieldDescriptor (TT k).2.2.1 = some (ty0 k)) (k : Nat) (hk : k < N) {lo hi : Int} (hf : fs[k]? = some (1, lo, hi)) (hl : Cond.fieldLink own index (TT k).1 (TT k).2.1 (TT k).2.2.1 ∈ wsL_law) (hfin : (TT k).2.2.2 = false) {r : Nat} (hn : narrow (ty0 k) (.ref r) = .ref r) (hfit : fits (ty0 k) (.ref r) = true) (hkd : k ∉ dn) (hkx : (ex.map Prod.fst).all (fun j => j != k) = true) (hdg : decode cc pc = .ok (.putfield index, 3))
    (kk : ∀ (σ1 : q_S) (H1 : Heap) (locs1 : List Loc), q_Wc G s.heap L T σ1 H1 locs1 → q_Gw L T σ L T σ1 a → q_Po L T σ1 a t dn ((k, r) :: ex) → W p l e R s m args below meth c H1 locs1 cells slots Q (F0 m (pc + 3) ls rest)) : W p l e R s m args below meth c H locs cells slots Q (F0 m pc ls (.ref r :: .ref a :: rest)) := by
  obtain ⟨vs, q0, hq, hlv, hgo⟩ := q_Po.set hW h hs k hf hkd (fun x hx => by have h9 := List.all_eq_true.mp hkx x.1 (List.mem_map.mpr ⟨x, hx, rfl⟩); simpa using h9) (v := .ref r) (fun z => by cases z)
  refine va_put hE.1.1 hE.1.2.1 hE.1.2.2.2.2 hc.2.1 ty0 hty hc.2.2 hE.1.2.2.2.1 hE.2.1 hW.1.1 hW.1.2.1 hW.2 q0 hq hc.1 k hk (hE.w hl) (fun _ z => z) hfin (hty k hk) hn hfit hlv hdg fun H1 locs1 h1 h2 h3 => ?_
  obtain ⟨σ1, e1, e2, e3, -⟩ := hgo H1 locs1 h1 h2 h3
  exact kk σ1 H1 locs1 e1 e2 (e3 rfl r rfl)
theorem q_putI (hE : q_E G p s m args c cc nL own) (hW : q_Wc G s.heap L T σ H locs) (h : q_Po L T σ a t dn ex) {ci : Nat} {fs : List (Nat × Int × Int)} (hs : q_sO t = some (ci, fs)) {TT : u_T} {N : Nat} (hc : q_cls ci C TT N) (ty0 : Nat → FieldType) (hty : ∀ k, k < N → parseFieldDescriptor (TT k).2.2.1 = some (ty0 k)) (k : Nat) (hk : k < N) {lo hi : Int} (hf : fs[k]? = some (0, lo, hi)) (hl : Cond.fieldLink own index (TT k).1 (TT k).2.1 (TT k).2.2.1 ∈ wsL_law) (hfin : (TT k).2.2.2 = false) {v : Int32} (hv : v = q_iv t k) (hn : narrow (ty0 k) (.int v) = .int v) (hfit : fits (ty0 k) (.int v) = true) (hkd : k ∉ dn) (hkx : (ex.map Prod.fst).all (fun j => j != k) = true) (hdg : decode cc pc = .ok (.putfield index, 3))
    (kk : ∀ (σ1 : q_S) (H1 : Heap) (locs1 : List Loc), q_Wc G s.heap L T σ1 H1 locs1 → q_Gw L T σ L T σ1 a → q_Po L T σ1 a t (k :: dn) ex → W p l e R s m args below meth c H1 locs1 cells slots Q (F0 m (pc + 3) ls rest)) : W p l e R s m args below meth c H locs cells slots Q (F0 m pc ls (.int v :: .ref a :: rest)) := by
  obtain ⟨vs, q0, hq, hlv, hgo⟩ := q_Po.set hW h hs k hf hkd (fun x hx => by have h9 := List.all_eq_true.mp hkx x.1 (List.mem_map.mpr ⟨x, hx, rfl⟩); simpa using h9) (v := .int v) (fun _ => by rw [hv])
  refine va_put hE.1.1 hE.1.2.1 hE.1.2.2.2.2 hc.2.1 ty0 hty hc.2.2 hE.1.2.2.2.1 hE.2.1 hW.1.1 hW.1.2.1 hW.2 q0 hq hc.1 k hk (hE.w hl) (fun _ z => z) hfin (hty k hk) hn hfit hlv hdg fun H1 locs1 h1 h2 h3 => ?_
  obtain ⟨σ1, e1, e2, -, e3⟩ := hgo H1 locs1 h1 h2 h3
  exact kk σ1 H1 locs1 e1 e2 (e3 rfl)
theorem q_getX (hE : q_E G p s m args c cc nL own) (hW : q_Wc G s.heap L T σ H locs) (h : q_Po L T σ a t dn ex) {ci : Nat} {fs : List (Nat × Int × Int)} (hs : q_sO t = some (ci, fs)) {TT : u_T} {N : Nat} (hc : q_cls ci C TT N) (k : Nat) (hk : k < N) {r : Nat} (hx : (k, r) ∈ ex) (hl : Cond.fieldLink own index (TT k).1 (TT k).2.1 (TT k).2.2.1 ∈ wsL_law) (hdg : decode cc pc = .ok (.getfield index, 3))
    (kk : W p l e R s m args below meth c H locs cells slots Q (F0 m (pc + 3) ls (.ref r :: rest))) : W p l e R s m args below meth c H locs cells slots Q (F0 m pc ls (.ref a :: rest)) := by
  obtain ⟨g1, g2, o', vs, h3, h4, h5, h6, h7⟩ := h
  cases hs.symm.trans h3
  obtain ⟨q0, hq⟩ := va_pl_get (X := []) (f := σ) g1
  rw [List.nil_append, h4] at hq
  exact va_get hE.1.1 hE.1.2.1 hE.1.2.2.2.2 hc.2.1 hE.1.2.2.2.1 hE.2.1 hW.1.1 q0 hq hc.1 k hk (hE.w hl) (fun _ z => z) (h7 _ hx) hdg kk
/-- the next cell into a row of cells on its way -/
theorem q_Pr.set (hW : q_Wc G H0 L T σ H locs) {j : Nat} (h : q_Pr G L T σ a t j) {o : Nat × Nat × Nat × Nat} (ho : q_sR t = some o) {v : Nat} (hlo : o.2.2.1 ≤ T v) (hhi : T v ≤ o.2.2.2) :
    ∃ (f : Nat → Option Nat) (q0 : Nat), (va_pl L σ)[q0]? = some (a, .inl (q_C G o.1, o.2.1, .inr (.inr (.inr (.inr f))))) ∧ ∀ (H1 : Heap) (locs1 : List Loc), va_P (q_D G) vwCl ((va_pl L σ).set q0 (a, .inl (q_C G o.1, o.2.1, .inr (.inr (.inr (.inr (va_up f j (some v)))))))) H1 → va_D (q_N G) ((va_pl L σ).set q0 (a, .inl (q_C G o.1, o.2.1, .inr (.inr (.inr (.inr (va_up f j (some v)))))))) → va_S (q_N G) H0 H1 locs1 → ∃ σ1 : q_S, q_Wc G H0 L T σ1 H1 locs1 ∧ q_Gw L T σ L T σ1 a ∧ q_Pr G L T σ1 a t (j + 1) := by
  obtain ⟨g1, g2, o', f, h3, h4, h5⟩ := h
  cases ho.symm.trans h3
  obtain ⟨q0, hq⟩ := va_pl_get (X := []) (f := σ) g1
  have hst := va_pl_set (X := []) (L := L) (e := .inl (q_C G o.1, o.2.1, .inr (.inr (.inr (.inr (va_up f j (some v))))))) (show va_D (q_N G) ([] ++ va_pl L σ) from hW.1.2.1) g1 hq
  rw [List.nil_append, List.nil_append] at hst
  rw [List.nil_append, h4] at hq
  refine ⟨f, q0, hq, fun H1 locs1 h1 h2 h8 => ?_⟩
  rw [hst] at h1 h2
  have hWc : q_Wc G H0 L T (va_up σ a (.inl (q_C G o.1, o.2.1, .inr (.inr (.inr (.inr (va_up f j (some v)))))))) H1 locs1 := ⟨⟨h1, h2, fun x hx => by
    obtain ⟨e1, e2⟩ := hW.1.2.2 x hx
    have hne : x ≠ a := fun e => hx (e ▸ g2)
    exact ⟨e1, by rw [va_up_ne _ _ hne]; exact e2⟩⟩, h8⟩
  refine ⟨_, hWc, ⟨fun _ z => z, fun _ _ => rfl, fun x _ hne => ⟨rfl, fun _ => va_up_ne _ _ hne⟩, fun x z1 z2 => absurd z2 z1⟩, g1, g2, o, _, ho, va_up_self _ _ _, fun i hi => ?_⟩
  by_cases e : i = j
  · subst e
    exact ⟨v, va_up_self _ _ _, hlo, hhi⟩
  · rw [va_up_ne _ _ e]
    exact h5 i (by omega)
theorem q_aaP (hE : q_E G p s m args c cc nL own) (hW : q_Wc G s.heap L T σ H locs) (j : Nat) (h : q_Pr G L T σ a t j) {ci N lo hi : Nat} (hs : q_sR t = some (ci, N, lo, hi)) {E : String} (hty : (q_tys (q_C G))[ci]? = some (q_C G ci, .object E)) {v tv cj : Nat} {fs : List (Nat × Int × Int)} (hv : T v = tv) (h0 : tv ≠ 0) (hso : q_sO tv = some (cj, fs)) {TT : u_T} {NC : Nat} (hc : q_cls cj C TT NC) (hca : C = E ∨ (C, E) ∈ q_nC) (hlo : lo ≤ tv) (hhi : tv ≤ hi) {i : Int32} (hi : i.toNatClampNeg = j) (hin : vp_in i N) (hdg : decode cc pc = .ok (.aastore, 1))
    (kk : ∀ (σ1 : q_S) (H1 : Heap) (locs1 : List Loc), q_Wc G s.heap L T σ1 H1 locs1 → q_Gw L T σ L T σ1 a → q_Pr G L T σ1 a t (j + 1) → W p l e R s m args below meth c H1 locs1 cells slots Q (F0 m (pc + 1) ls rest)) : W p l e R s m args below meth c H locs cells slots Q (F0 m pc ls (.ref v :: .int i :: .ref a :: rest)) := by
  obtain ⟨f, q0, hq, hgo⟩ := q_Pr.set hW h hs (v := v) (by rw [hv]; exact hlo) (by rw [hv]; exact hhi)
  subst hi
  obtain ⟨hLv, hok⟩ := hW.1.2.2 v (by show T v ≠ 0; rw [hv]; exact h0)
  have hok : q_ok (q_Gx G L T) (T v) (σ v) := hok
  rw [hv] at hok
  obtain ⟨vs, ev, -, -⟩ := hok.1 _ hso
  obtain ⟨qk, hqk⟩ := va_pl_get (X := []) (f := σ) hLv
  rw [List.nil_append] at hqk
  have ev : σ v = .inr (cj, vs) := ev
  have hqk : (va_pl L σ)[qk]? = some (v, σ v) := hqk
  rw [ev] at hqk
  rcases hca with rfl | hca
  · refine va_astq (r := (C, TT, NC)) hE.1.1 hE.1.2.1 hE.2.1 hW.1.1 hW.1.2.1 hW.2 q0 ci qk cj hq hty hqk hc.1 hin hdg fun H1 locs1 h1 h2 h3 => ?_
    obtain ⟨σ1, e1, e2, e3⟩ := hgo H1 locs1 h1 h2 h3
    exact kk σ1 H1 locs1 e1 e2 e3
  · refine va_astqO (r := (C, TT, NC)) (E := E) hE.1.1 hE.1.2.1 hE.2.1 hW.1.1 hW.1.2.1 hW.2 q0 ci qk cj hq hty (hE.2.2.1.2.2.2.1 (C, E) hca) hqk hc.1 hin hdg fun H1 locs1 h1 h2 h3 => ?_
    obtain ⟨σ1, e1, e2, e3⟩ := hgo H1 locs1 h1 h2 h3
    exact kk σ1 H1 locs1 e1 e2 e3
/-- a constructor is called -/
theorem q_initC (hE : q_E G p s m args c cc nL own) (hB : q_B G ≤ s.heap.size) (hA : q_AA s) (hW : q_Wc G s.heap L T σ H locs) (hM : Met l y (Cond.code y bytes maxL none :: wsL_law) (q_Rc d mc ms) (q_PreC G L T σ (.ref b :: As)) (q_QcC G L T σ b t) mc ms (q_N G)) (hcode : Cond.code y bytes maxL none ∈ wsL_law) (hini : Cond.initialized y.cls ∈ wsL_law) (hlk : Cond.methodLink own index y ∈ wsL_law) (hinst : Cond.instanceMethod y ∈ wsL_law) (hy : y.name = "<init>") (hd : y.cls ≠ "java/lang/invoke/MethodHandle" ∧ y.cls ≠ "java/lang/invoke/VarHandle" ∧ (parseMethodDescriptor y.desc).map (fun d => d.parameters.length) = some n)
    (hn : As.length = n) (hsz : ls.size = nL) (hst : st0 = As.reverse ++ .ref b :: rest) (hrest : (rest.map fun v => v.category).sum ≤ 8) (hdg : decode cc pc = .ok (.invokespecial index, 3)) (hR : d + 1 ≤ R.frames ∧ 8 + (maxL + 11) + 40 * d ≤ R.locals) (hf : cells + mc ≤ R.cells ∧ slots + ms ≤ R.slots)
    (kk : ∀ (L1 : List Nat) (T1 : Nat → Nat) (σ1 : q_S) (H1 : Heap) (locs1 : List Loc), q_Wc G s.heap L1 T1 σ1 H1 locs1 → q_Gw L T σ L1 T1 σ1 b → T1 b = t → W p l e R s m args below meth c H1 locs1 (cells + mc) (slots + ms) Q (F0 m (pc + 3) ls rest)) : W p l e R s m args below meth c H locs cells slots Q (F0 m pc ls st0) := by
  refine va_callv (va_runI (nL := nL) (n := n) (index := index) hE.1 hM (cwI n hE.1.2.2.2.2 (q_goodc hcode) rfl rfl rfl (hE.w hini) (hE.w hlk) (hE.w hinst) hy hd hR) ⟨q_blindC, fun U hU hW' => ⟨rfl, ⟨by rw [hU]; exact hW.1, by rw [hU]; exact Nat.le_trans hB hW.2.1, hA.moved hW'.alike⟩, hE.2.go hW' hW.2 hU⟩⟩ rfl hn hsz hst (lv_room hrest) hdg hf) hW.2 (fun _ _ h => h) (fun _ h => h) fun u t9 H1 locs1 ht hvm hp hB9 hz hk hS => ?_
  exact kk u.1 u.2.1 u.2.2 H1 locs1 ⟨by rw [← ht]; exact hB9, hS⟩ hp.1 hp.2
/-- how a constructor begins -/
theorem q_ofC {as : List Value} (hy : plainName y.cls = true) (hlen : (lg_sl as).length ≤ maxL)
    (body : ∀ p e s m args below meth c, q_E G p s m args c bytes maxL y.cls → meth.name = y.name → q_B G ≤ s.heap.size → q_AA s → meth.sig.returnType = none → meth.locks = false → q_Wc G s.heap L T σ s.heap [] → ∀ ls, lv_has ls maxL (lv_args 0 as) → W p l e (q_Rc d mc ms) s m args below meth c s.heap [] 0 0 (MQ below (q_QcC G L T σ a t) args s mc ms (q_N G)) (F0 m 0 ls [])) : Met l y (Cond.code y bytes maxL none :: wsL_law) (q_Rc d mc ms) (q_PreC G L T σ as) (q_QcC G L T σ a t) mc ms (q_N G) := by
  refine Met.ofW (cc := bytes) (maxL := maxL) (ret := none) hy rfl ?_
  intro p e s m args below meth c s₁ B hml hv
  obtain ⟨rfl, ⟨hO, hB, hA⟩, hK⟩ := hv
  have hts := atoms_spec (ws := Cond.code y bytes maxL none :: wsL_law) B.pre
  have hown : s.vm.findClass y.cls = some m.cls := findClass_of_methodNamed B.named
  have hl := lv_entry as (n := maxL) hlen
  rw [lg_entry_eq]
  generalize (lg_sl as ++ List.replicate (maxL - (lg_sl as).length) Slot.unset).toArray = ls at hl ⊢
  exact body p e s m _ below meth c ⟨⟨B.exec, B.bytes, hml, hown, fun w h => hts w (List.mem_cons_of_mem _ h)⟩, hK⟩ (name_of_methodNamed B.named B.method).1 hB hA B.returns B.notSynchronized ⟨hO, va_S.rf⟩ ls hl
theorem q_retC {L0 : List Nat} {T0 : Nat → Nat} {σ0 : q_S} (hE : q_E G p s m args c cc nL own) (hr : meth.sig.returnType = none) (hlocks : meth.locks = false) (hW : q_Wc G s.heap L T σ H locs) (hg : q_Gw L0 T0 σ0 L T σ a) (ht : T a = t) (hdg : decode cc pc = .ok (.return_, 1)) : W p l e R s m args below meth c H locs cells slots (MQ below (q_QcC G L0 T0 σ0 a t) args s cells slots (q_N G)) (F0 m pc ls []) :=
  W.vret hE.1.1 hE.1.2.1 hr (fun t9 ht9 _ => ⟨⟨(L, T, σ), rfl, ⟨hg, ht⟩, by show q_Ow (q_Gx G L T) σ t9.heap; rw [ht9]; exact hW.1⟩, hW.2.F ht9⟩) hW.2.2.2 hdg hlocks
end QH
