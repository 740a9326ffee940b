/-! what every state of the system knows -/
def q_nF : List (String × Nat × String × String × String) := [("CloudLaundry", 113, "CloudLaundry$Text", "length", "I"), ("CloudLaundry$Reader", 46, "CloudLaundry$Text", "length", "I"), ("CloudLaundry$Plan", 58, "CloudLaundry$Cloud", "kind", "LCloudLaundry$Kind;"), ("CloudLaundry", 141, "CloudLaundry$Cloud", "kind", "LCloudLaundry$Kind;"), ("CloudLaundry$Day", 89, "CloudLaundry$Cloud", "kind", "LCloudLaundry$Kind;"), ("CloudLaundry", 151, "CloudLaundry$Cloud", "size", "I"), ("CloudLaundry$Day", 102, "CloudLaundry$Cloud", "size", "I"), ("CloudLaundry$Plan", 83, "CloudLaundry$Cloud", "due", "I"), ("CloudLaundry", 154, "CloudLaundry$Cloud", "due", "I"), ("CloudLaundry", 157, "CloudLaundry$Cloud", "where", "I"), ("CloudLaundry$Plan", 92, "CloudLaundry$Cloud", "where", "I"), ("CloudLaundry$Day", 68, "CloudLaundry$Cloud", "where", "I"), ("CloudLaundry", 164, "CloudLaundry$Cloud", "hung", "I"), ("CloudLaundry$Day", 78, "CloudLaundry$Cloud", "hung", "I"), ("CloudLaundry", 174, "CloudLaundry$Cloud", "deep", "[I"), ("CloudLaundry$Reader", 121, "CloudLaundry$Cloud", "deep", "[I"), ("CloudLaundry$Day", 119, "CloudLaundry$Cloud", "deep", "[I"), ("CloudLaundry$Plan", 54, "CloudLaundry$Day", "clouds", "[LCloudLaundry$Cloud;"), ("CloudLaundry", 253, "CloudLaundry$Day", "clouds", "[LCloudLaundry$Cloud;"), ("CloudLaundry$Plan", 51, "CloudLaundry$Day", "cloudCount", "I"), ("CloudLaundry$Reader", 106, "CloudLaundry$Day", "cloudCount", "I"), ("CloudLaundry", 250, "CloudLaundry$Day", "cloudCount", "I"), ("CloudLaundry$Plan", 64, "CloudLaundry$Day", "hands", "[I"), ("CloudLaundry", 181, "CloudLaundry$Day", "hands", "[I"), ("CloudLaundry", 184, "CloudLaundry$Day", "has", "[I"), ("CloudLaundry$Plan", 46, "CloudLaundry$Day", "washerCount", "I"), ("CloudLaundry$Reader", 127, "CloudLaundry$Day", "washerCount", "I"), ("CloudLaundry", 308, "CloudLaundry$Day", "washerCount", "I"), ("CloudLaundry", 187, "CloudLaundry$Day", "water", "[[I"), ("CloudLaundry$Reader", 134, "CloudLaundry$Day", "soap", "I"), ("CloudLaundry", 213, "CloudLaundry$Day", "soap", "I"), ("CloudLaundry$Reader", 136, "CloudLaundry$Day", "eye", "I"), ("CloudLaundry", 317, "CloudLaundry$Day", "eye", "I"), ("CloudLaundry$Plan", 99, "CloudLaundry$Day", "hour", "I"), ("CloudLaundry", 204, "CloudLaundry$Day", "hour", "I"), ("CloudLaundry", 134, "CloudLaundry$Reader", "clauses", "I"), ("CloudLaundry", 244, "CloudLaundry$Plan", "most", "I"), ("CloudLaundry", 124, "CloudLaundry$Line", "there", "Z"), ("CloudLaundry", 304, "CloudLaundry$Line", "pegs", "I"), ("CloudLaundry", 291, "CloudLaundry$Line", "things", "[I"), ("CloudLaundry", 294, "CloudLaundry$Line", "values", "[I")]
def q_nM : List (String × Nat × MethodName) := [("CloudLaundry", 9, ⟨"CloudLaundry$White", "<init>", "()V"⟩), ("CloudLaundry$White", 1, ⟨"CloudLaundry$Kind", "<init>", "()V"⟩), ("CloudLaundry", 14, ⟨"CloudLaundry$Thunder", "<init>", "()V"⟩), ("CloudLaundry$Thunder", 1, ⟨"CloudLaundry$White", "<init>", "()V"⟩), ("CloudLaundry", 17, ⟨"CloudLaundry$Fog", "<init>", "()V"⟩), ("CloudLaundry$Fog", 1, ⟨"CloudLaundry$White", "<init>", "()V"⟩), ("CloudLaundry", 20, ⟨"CloudLaundry$Bride", "<init>", "()V"⟩), ("CloudLaundry$Bride", 1, ⟨"CloudLaundry$Kind", "<init>", "()V"⟩)]
def q_nD : List MethodName := [⟨"CloudLaundry$Kind", "number", "()I"⟩, ⟨"CloudLaundry$Kind", "word", "()Ljava/lang/String;"⟩, ⟨"CloudLaundry$Kind", "rubs", "(I)I"⟩, ⟨"CloudLaundry$Kind", "shrinks", "()I"⟩, ⟨"CloudLaundry$Kind", "dries", "()I"⟩]
def q_nC : List (String × String) := [("CloudLaundry$Thunder", "CloudLaundry$White"), ("CloudLaundry$Fog", "CloudLaundry$White"), ("CloudLaundry$White", "CloudLaundry$Kind"), ("CloudLaundry$Thunder", "CloudLaundry$Kind"), ("CloudLaundry$Fog", "CloudLaundry$Kind"), ("CloudLaundry$Bride", "CloudLaundry$Kind")]
def q_nN : List (String × String) := [("CloudLaundry$Bride", "CloudLaundry$White"), ("CloudLaundry$White", "CloudLaundry$Thunder"), ("CloudLaundry$Fog", "CloudLaundry$Thunder"), ("CloudLaundry$Bride", "CloudLaundry$Thunder"), ("CloudLaundry$White", "CloudLaundry$Fog"), ("CloudLaundry$Thunder", "CloudLaundry$Fog"), ("CloudLaundry$Bride", "CloudLaundry$Fog"), ("CloudLaundry$White", "CloudLaundry$Bride"), ("CloudLaundry$Thunder", "CloudLaundry$Bride"), ("CloudLaundry$Fog", "CloudLaundry$Bride")]
def q_nO : List String := ["CloudLaundry$Kind", "CloudLaundry$Day", "CloudLaundry$Text", "CloudLaundry$Line", "CloudLaundry$Cloud"]
def q_nest (U : State) : Prop := (∀ w ∈ q_nF, va_Nw (.fieldLinkNest w.1 w.2.1 w.2.2.1 w.2.2.2.1 w.2.2.2.2 "CloudLaundry") U) ∧ (∀ w ∈ q_nM, va_Nw (.methodLinkNest w.1 w.2.1 w.2.2 "CloudLaundry") U) ∧ (∀ w ∈ q_nD, va_Nw (.declares w) U) ∧ (∀ w ∈ q_nC, va_Nw (.castable w.1 w.2) U) ∧ (∀ w ∈ q_nN, va_Nc w.1 w.2 U) ∧ (∀ w ∈ q_nO, va_AO w U)
theorem q_nest.go {s U : State} (h : q_nest s) (hW : s.WarmedH U.vm) : q_nest U := ⟨fun w hw => (h.1 w hw).warmF hW, fun w hw => (h.2.1 w hw).warmM hW, fun w hw => (h.2.2.1 w hw).warmD hW, fun w hw => (h.2.2.2.1 w hw).warmC hW, fun w hw => (h.2.2.2.2.1 w hw).moved hW.alike, fun w hw => (h.2.2.2.2.2 w hw).moved hW.alike⟩
def q_tx : List (String × Nat × String) := [("CloudLaundry$Reader", 67, "summer"), ("CloudLaundry$Reader", 76, "stain"), ("CloudLaundry$Reader", 81, "washer"), ("CloudLaundry$Reader", 86, "soap"), ("CloudLaundry$Reader", 91, "eye"), ("CloudLaundry$Bride", 7, "bride"), ("CloudLaundry$Fog", 7, "fog"), ("CloudLaundry$Thunder", 7, "thunder"), ("CloudLaundry$White", 7, "white")]
def q_len : List Nat := [6, 5, 6, 4, 3, 5, 3, 7, 5]
def q_byt : List (List Int32) := [[115, 117, 109, 109, 101, 114], [115, 116, 97, 105, 110], [119, 97, 115, 104, 101, 114], [115, 111, 97, 112], [101, 121, 101], [98, 114, 105, 100, 101], [102, 111, 103], [116, 104, 117, 110, 100, 101, 114], [119, 104, 105, 116, 101]]
def q_str (A : Nat → Prop) (adK adV : Nat → Nat) (U : State) (H : Heap) : Prop := vk_S 9 q_len q_byt adK adV A U H ∧ (∀ (i : Nat) q, q_tx[i]? = some q → vk_R q.1 q.2.1 q.2.2 (adK i) U) ∧ va_Z "java/lang/String" "COMPACT_STRINGS" "Z" (.int 1) A U H ∧ va_Zq "jdk/internal/util/Preconditions" "SIOOBE_FORMATTER" "Ljava/util/function/BiFunction;" A U H
def q_K (G : q_G) (U : State) : Prop := va_K (q_D G) vwCl (q_tys (q_C G)) U ∧ q_nest U ∧ q_str (q_N G) (q_aK G) (q_aV G) U U.heap
theorem q_K.go {G : q_G} {s U : State} {H : Heap} {locs : List Loc} (h : q_K G s) (hW : s.WarmedH U.vm) (hS : va_S (q_N G) s.heap H locs) (hU : U.heap = H) : q_K G U := by
  obtain ⟨h1, h2, h3, h4, h5, h6⟩ := h
  subst hU
  exact ⟨h1.moved hW.alike, h2.go hW, (h3.moved hW.alike).kept hS.2.1, fun i q hq => (h4 i q hq).warm hW, (h5.moved hW.alike).kept hS.2.1, (h6.moved hW.alike).kept hS.2.1⟩
/-- the method's own standing: machine, code, tables -/
def q_E (G : q_G) (p : Program) (s : State) (m : MethodId) (args : Array Value) (c : Code) (cc : ByteArray) (nL : Nat) (own : String) : Prop := CallFix p m c cc nL s args wsL_law own ∧ q_K G s
def q_lk (s : State) (args : Array Value) (own : String) (index : Nat) (o n d : String) : Prop := (Cond.fieldLink own index o n d).before args s = true ∨ ∃ host, (Cond.fieldLinkNest own index o n d host).before args s = true
theorem q_E.l {G : q_G} {p : Program} {s : State} {m : MethodId} {args : Array Value} {c : Code} {cc : ByteArray} {nL : Nat} {own : String} (h : q_E G p s m args c cc nL own) {index : Nat} {o n d : String} (hm : Cond.fieldLink own index o n d ∈ wsL_law) : q_lk s args own index o n d := Or.inl (h.1.2.2.2.2 _ hm)
theorem q_E.n {G : q_G} {p : Program} {s : State} {m : MethodId} {args : Array Value} {c : Code} {cc : ByteArray} {nL : Nat} {own : String} (h : q_E G p s m args c cc nL own) {index : Nat} {o n d : String} (i : Nat) (hm : q_nF[i]? = some (own, index, o, n, d)) : q_lk s args own index o n d := Or.inr ⟨"CloudLaundry", va_Nw.use rfl (h.2.2.1.1 _ (List.mem_of_getElem? hm))⟩
theorem q_E.w {G : q_G} {p : Program} {s : State} {m : MethodId} {args : Array Value} {c : Code} {cc : ByteArray} {nL : Nat} {own : String} (h : q_E G p s m args c cc nL own) {w : Cond} (hm : w ∈ wsL_law) : w.before args s = true := h.1.2.2.2.2 _ hm
/-- a class of the pool: its place among the classes, its fields -/
def q_cls (ci : Nat) (C : String) (T : u_T) (N : Nat) : Prop := vwCl[ci]? = some (C, T, N) ∧ (∀ w ∈ u_ws C T N, w ∈ wsL_law) ∧ (∀ a, a < N → ∀ b, b < N → a ≠ b → (T a).2.1 ≠ (T b).2.1)
theorem q_k0 : q_cls 0 RX0 TX0 0 := ⟨rfl, inlX0, nmX0⟩
theorem q_k1 : q_cls 1 RX1 TX1 6 := ⟨rfl, inlX1, nmX1⟩
theorem q_k2 : q_cls 2 RX2 TX2 9 := ⟨rfl, inlX2, nmX2⟩
theorem q_k3 : q_cls 3 RX3 TX3 0 := ⟨rfl, inlX3, nmX3⟩
theorem q_k5 : q_cls 4 RX5 TX5 5 := ⟨rfl, inlX5, nmX5⟩
theorem q_k6 : q_cls 5 RX6 TX6 7 := ⟨rfl, inlX6, nmX6⟩
theorem q_k7 : q_cls 6 RX7 TX7 6 := ⟨rfl, inlX7, nmX7⟩
theorem q_k8 : q_cls 7 RX8 TX8 2 := ⟨rfl, inlX8, nmX8⟩
theorem q_k9 : q_cls 8 RX9 TX9 0 := ⟨rfl, inlX9, nmX9⟩
theorem q_k10 : q_cls 9 RX10 TX10 0 := ⟨rfl, inlX10, nmX10⟩
theorem q_k11 : q_cls 10 RX11 TX11 20 := ⟨rfl, inlX11, nmX11⟩
theorem q_k12 : q_cls 11 RX12 TX12 44 := ⟨rfl, inlX12, nmX12⟩
theorem q_Ow.obj {G : q_G} {σ : q_S} {H : Heap} (h : q_Ow G σ H) {a t ci : Nat} {fs : List (Nat × Int × Int)} (ht : q_T G a = t) (hs : q_sO t = some (ci, fs)) : a ∈ q_L G ∧ ∃ vs : List Value, σ a = .inr (ci, vs) ∧ vs.length = fs.length ∧ ∀ (k : Nat) q, fs[k]? = some q → ∃ v, vs[k]? = some v ∧ q_okV G q v := by
  subst ht
  have h0 : q_T G a ≠ 0 := fun e => by rw [e] at hs; cases hs
  obtain ⟨h1, h2, -⟩ := h.2.2 a h0
  exact ⟨h1, h2 _ hs⟩
theorem q_Ow.arr {G : q_G} {σ : q_S} {H : Heap} (h : q_Ow G σ H) {a t ci n : Nat} (ht : q_T G a = t) (hs : q_sI t = some (ci, n)) : a ∈ q_L G ∧ ∃ f : Nat → Int32, σ a = .inl (q_C G ci, n, .inl f) ∧ ∀ i : Nat, i < n → q_eP t i (f i).toInt := by
  subst ht
  have h0 : q_T G a ≠ 0 := fun e => by rw [e] at hs; cases hs
  obtain ⟨h1, -, h2, -⟩ := h.2.2 a h0
  exact ⟨h1, h2 _ hs⟩
theorem q_Ow.arq {G : q_G} {σ : q_S} {H : Heap} (h : q_Ow G σ H) {a t ci n lo hi : Nat} (ht : q_T G a = t) (hs : q_sR t = some (ci, n, lo, hi)) : a ∈ q_L G ∧ ∃ f : Nat → Option Nat, σ a = .inl (q_C G ci, n, .inr (.inr (.inr (.inr f)))) ∧ ∀ i : Nat, i < n → ∃ r, f i = some r ∧ lo ≤ q_T G r ∧ q_T G r ≤ hi := by
  subst ht
  have h0 : q_T G a ≠ 0 := fun e => by rw [e] at hs; cases hs
  obtain ⟨h1, -, -, h2⟩ := h.2.2 a h0
  exact ⟨h1, h2 _ hs⟩
/-- one cell of the pool is changed, as its tag allows -/
theorem q_Ow.up {G : q_G} {σ : q_S} {H H1 : Heap} (h : q_Ow G σ H) {a : Nat} {e : va_E} (hL : a ∈ q_L G) (hok : q_ok G (q_T G a) e) (hP : va_P (q_D G) vwCl (va_pl (q_L G) (va_up σ a e)) H1) (hD : va_D (q_N G) (va_pl (q_L G) (va_up σ a e))) : q_Ow G (va_up σ a e) H1 := by
  refine ⟨hP, hD, fun b hb => ?_⟩
  obtain ⟨h1, h2⟩ := h.2.2 b hb
  refine ⟨h1, ?_⟩
  by_cases e : b = a
  · subst e; rw [va_up_self]; exact hok
  · rw [va_up_ne _ _ e]; exact h2
def q_Wd (G : q_G) (ts : List Nat) (σ0 : q_S) (H0 : Heap) (σ : q_S) (H : Heap) (locs : List Loc) : Prop := q_Ow G σ H ∧ q_Fr G ts σ0 σ ∧ va_S (q_N G) H0 H locs
section QR
variable {p : Program} {l : Launch} {e : Env} {R : Room} {s : State} {m : MethodId} {args : Array Value} {below : List Frame} {meth : Method} {c : Code} {H : Heap} {locs : List Loc} {cells slots : Nat} {Q : State → Prop}
variable {cc : ByteArray} {nL pc : Nat} {own : String} {ls : Array Slot} {rest : List Value} {G : q_G} {σ σ0 : q_S} {H0 : Heap} {ts : List Nat} {a t : Nat}
theorem q_geti (hE : q_E G p s m args c cc nL own) (hW : q_Wd G ts σ0 H0 σ H locs) (ht : q_T G a = t) {ci : Nat} {fs : List (Nat × Int × Int)} (hs : q_sO t = some (ci, fs)) {C : String} {T : u_T} {N : Nat} (hc : q_cls ci C T N) (k : Nat) (hk : k < N) {lo hi : Int} (hf : fs[k]? = some (0, lo, hi)) {index : Nat} (hl : q_lk s args own index (T k).1 (T k).2.1 (T k).2.2.1) (hdg : decode cc pc = .ok (.getfield index, 3))
    (kk : ∀ x : Int32, q_I σ a k = x → q_V lo hi x → W p l e R s m args below meth c H locs cells slots Q (F0 m (pc + 3) ls (.int x :: rest))) : W p l e R s m args below meth c H locs cells slots Q (F0 m pc ls (.ref a :: rest)) := by
  obtain ⟨hL, vs, e0, hlen, hv⟩ := hW.1.obj ht hs
  obtain ⟨v, hv1, hv2⟩ := hv k _ hf
  obtain ⟨x, rfl, hx⟩ := hv2.1 rfl
  obtain ⟨q0, hq⟩ := va_pl_get (X := []) (f := σ) hL
  rw [List.nil_append, e0] at hq
  have kx := kk x (by simp only [q_I, e0, hv1]; rfl) hx
  rcases hl with hl | ⟨host, hl⟩
  · exact va_get hE.1.1 hE.1.2.1 hE.1.2.2.2.2 hc.2.1 hE.1.2.2.2.1 hE.2.1 hW.1.1 q0 hq hc.1 k hk hl (fun _ z => z) hv1 hdg kx
  · exact va_getN hE.1.1 hE.1.2.1 hE.1.2.2.2.2 hc.2.1 hE.1.2.2.2.1 hE.2.1 hW.1.1 q0 hq hc.1 k hk hl (fun _ z => z) hv1 hdg kx
theorem q_getr (hE : q_E G p s m args c cc nL own) (hW : q_Wd G ts σ0 H0 σ H locs) (ht : q_T G a = t) {ci : Nat} {fs : List (Nat × Int × Int)} (hs : q_sO t = some (ci, fs)) {C : String} {T : u_T} {N : Nat} (hc : q_cls ci C T N) (k : Nat) (hk : k < N) {lo hi : Int} (hf : fs[k]? = some (1, lo, hi)) {index : Nat} (hl : q_lk s args own index (T k).1 (T k).2.1 (T k).2.2.1) (hdg : decode cc pc = .ok (.getfield index, 3))
    (kk : ∀ r : Nat, q_R σ a k = r → lo ≤ (q_T G r : Int) → (q_T G r : Int) ≤ hi → W p l e R s m args below meth c H locs cells slots Q (F0 m (pc + 3) ls (.ref r :: rest))) : W p l e R s m args below meth c H locs cells slots Q (F0 m pc ls (.ref a :: rest)) := by
  obtain ⟨hL, vs, e0, hlen, hv⟩ := hW.1.obj ht hs
  obtain ⟨v, hv1, hv2⟩ := hv k _ hf
  obtain ⟨r, rfl, hx1, hx2⟩ := hv2.2 rfl
  obtain ⟨q0, hq⟩ := va_pl_get (X := []) (f := σ) hL
  rw [List.nil_append, e0] at hq
  have kx := kk r (by simp only [q_R, e0, hv1]; rfl) hx1 hx2
  rcases hl with hl | ⟨host, hl⟩
  · exact va_get hE.1.1 hE.1.2.1 hE.1.2.2.2.2 hc.2.1 hE.1.2.2.2.1 hE.2.1 hW.1.1 q0 hq hc.1 k hk hl (fun _ z => z) hv1 hdg kx
  · exact va_getN hE.1.1 hE.1.2.1 hE.1.2.2.2.2 hc.2.1 hE.1.2.2.2.1 hE.2.1 hW.1.1 q0 hq hc.1 k hk hl (fun _ z => z) hv1 hdg kx
theorem q_okset {fs : List (Nat × Int × Int)} {vs : List Value} {k : Nat} {q : Nat × Int × Int} {v : Value} (hlen : vs.length = fs.length) (hv : ∀ (k : Nat) q, fs[k]? = some q → ∃ v, vs[k]? = some v ∧ q_okV G q v) (hk : fs[k]? = some q) (hok : q_okV G q v) : (vs.set k v).length = fs.length ∧ ∀ (j : Nat) q, fs[j]? = some q → ∃ v', (vs.set k v)[j]? = some v' ∧ q_okV G q v' := by
  refine ⟨by rw [List.length_set]; exact hlen, fun j q' hj => ?_⟩
  by_cases e : j = k
  · subst e
    have hl : j < vs.length := by rw [hlen]; exact (List.getElem?_eq_some_iff.mp hj).1
    cases hj.symm.trans hk
    exact ⟨v, List.getElem?_set_self hl, hok⟩
  · rw [List.getElem?_set_ne (Ne.symm e)]
    exact hv j q' hj
theorem q_sI_O {t : Nat} {o} (h : q_sO t = some o) : q_sI t = none ∧ q_sR t = none := by
  unfold q_sO at h
  split at h <;> first | exact ⟨rfl, rfl⟩ | cases h
theorem q_putv (hE : q_E G p s m args c cc nL own) (hW : q_Wd G ts σ0 H0 σ H locs) (ht : q_T G a = t) {ci : Nat} {fs : List (Nat × Int × Int)} (hs : q_sO t = some (ci, fs)) {C : String} {T : u_T} {N : Nat} (hc : q_cls ci C T N) (ty0 : Nat → FieldType) (hty : ∀ k, k < N → parseFieldDescriptor (T k).2.2.1 = some (ty0 k)) (k : Nat) (hk : k < N) {q : Nat × Int × Int} (hf : fs[k]? = some q) {index : Nat} (hl : q_lk s args own index (T k).1 (T k).2.1 (T k).2.2.1) (hfin : (T k).2.2.2 = false) {v : Value} (hn : narrow (ty0 k) v = v) (hfit : fits (ty0 k) v = true) (hok : q_okV G q v) (hts : t ∈ ts) (hdg : decode cc pc = .ok (.putfield index, 3))
    (kk : ∀ (H1 : Heap) (locs1 : List Loc) (vs : List Value), σ a = .inr (ci, vs) → (∃ v0, vs[k]? = some v0 ∧ q_okV G q v0) → q_Wd G ts σ0 H0 (va_up σ a (.inr (ci, vs.set k v))) H1 locs1 → W p l e R s m args below meth c H1 locs1 cells slots Q (F0 m (pc + 3) ls rest)) : W p l e R s m args below meth c H locs cells slots Q (F0 m pc ls (v :: .ref a :: rest)) := by
  obtain ⟨hL, vs, e0, hlen, hv⟩ := hW.1.obj ht hs
  obtain ⟨v0, hv1, hv2⟩ := hv k _ hf
  obtain ⟨q0, hq⟩ := va_pl_get (X := []) (f := σ) hL
  have hq' := hq
  rw [List.nil_append, e0] at hq
  have hl0 : k < vs.length := (List.getElem?_eq_some_iff.mp hv1).1
  have hst := fun (e9 : va_E) => va_pl_set (X := []) (e := e9) hW.1.2.1 hL hq'
  simp only [List.nil_append] at hst
  have hup : ∀ (H1 : Heap) (locs1 : List Loc), va_P (q_D G) vwCl ((va_pl (q_L G) σ).set q0 (a, .inr (ci, vs.set k v))) H1 → va_D (q_N G) ((va_pl (q_L G) σ).set q0 (a, .inr (ci, vs.set k v))) → va_S (q_N G) H0 H1 locs1 → W p l e R s m args below meth c H1 locs1 cells slots Q (F0 m (pc + 3) ls rest) := by
    intro H1 locs1 h1 h2 h3
    rw [hst] at h1 h2
    have ho := q_okset hlen hv hf hok
    refine kk H1 locs1 vs e0 ⟨v0, hv1, hv2⟩ ⟨hW.1.up hL ?_ h1 h2, hW.2.1.up (by rw [ht]; exact hts), h3⟩
    rw [ht]
    refine ⟨fun o h => ?_, fun o h => ?_, fun o h => ?_⟩
    · cases hs.symm.trans h
      exact ⟨_, rfl, ho.1, ho.2⟩
    · rw [(q_sI_O hs).1] at h; cases h
    · rw [(q_sI_O hs).2] at h; cases h
  rcases hl with hl | ⟨host, hl⟩
  · exact va_put hE.1.1 hE.1.2.1 hE.1.2.2.2.2 hc.2.1 ty0 hty hc.2.2 hE.1.2.2.2.1 hE.2.1 hW.1.1 hW.1.2.1 hW.2.2 q0 hq hc.1 k hk hl (fun _ z => z) hfin (hty k hk) hn hfit hl0 hdg hup
  · exact va_putN hE.1.1 hE.1.2.1 hE.1.2.2.2.2 hc.2.1 ty0 hty hc.2.2 hE.1.2.2.2.1 hE.2.1 hW.1.1 hW.1.2.1 hW.2.2 q0 hq hc.1 k hk hl (fun _ z => z) hfin (hty k hk) hn hfit hl0 hdg hup
theorem q_puti (hE : q_E G p s m args c cc nL own) (hW : q_Wd G ts σ0 H0 σ H locs) (ht : q_T G a = t) {ci : Nat} {fs : List (Nat × Int × Int)} (hs : q_sO t = some (ci, fs)) {C : String} {T : u_T} {N : Nat} (hc : q_cls ci C T N) (ty0 : Nat → FieldType) (hty : ∀ k, k < N → parseFieldDescriptor (T k).2.2.1 = some (ty0 k)) (k : Nat) (hk : k < N) {lo hi : Int} (hf : fs[k]? = some (0, lo, hi)) {index : Nat} (hl : q_lk s args own index (T k).1 (T k).2.1 (T k).2.2.1) (hfin : (T k).2.2.2 = false) {x : Int32} (hn : narrow (ty0 k) (.int x) = .int x) (hfit : fits (ty0 k) (.int x) = true) (hx : q_V lo hi x) (hts : t ∈ ts) (hdg : decode cc pc = .ok (.putfield index, 3))
    (kk : ∀ (H1 : Heap) (locs1 : List Loc) (σ1 : q_S), q_pI σ σ1 a k x → q_Wd G ts σ0 H0 σ1 H1 locs1 → W p l e R s m args below meth c H1 locs1 cells slots Q (F0 m (pc + 3) ls rest)) : W p l e R s m args below meth c H locs cells slots Q (F0 m pc ls (.int x :: .ref a :: rest)) := by
  refine q_putv hE hW ht hs hc ty0 hty k hk hf hl hfin hn hfit ⟨fun _ => ⟨x, rfl, hx⟩, fun h => by cases h⟩ hts hdg fun H1 locs1 vs e0 h0 hw => ?_
  obtain ⟨v0, h1, h2⟩ := h0
  obtain ⟨y, rfl, -⟩ := h2.1 rfl
  exact kk H1 locs1 _ (q_pI.of e0 h1) hw
theorem q_putr (hE : q_E G p s m args c cc nL own) (hW : q_Wd G ts σ0 H0 σ H locs) (ht : q_T G a = t) {ci : Nat} {fs : List (Nat × Int × Int)} (hs : q_sO t = some (ci, fs)) {C : String} {T : u_T} {N : Nat} (hc : q_cls ci C T N) (ty0 : Nat → FieldType) (hty : ∀ k, k < N → parseFieldDescriptor (T k).2.2.1 = some (ty0 k)) (k : Nat) (hk : k < N) {lo hi : Int} (hf : fs[k]? = some (1, lo, hi)) {index : Nat} (hl : q_lk s args own index (T k).1 (T k).2.1 (T k).2.2.1) (hfin : (T k).2.2.2 = false) {r : Nat} (hn : narrow (ty0 k) (.ref r) = .ref r) (hfit : fits (ty0 k) (.ref r) = true) (hx1 : lo ≤ (q_T G r : Int)) (hx2 : (q_T G r : Int) ≤ hi) (hts : t ∈ ts) (hdg : decode cc pc = .ok (.putfield index, 3))
    (kk : ∀ (H1 : Heap) (locs1 : List Loc) (σ1 : q_S), q_pR σ σ1 a k r → q_Wd G ts σ0 H0 σ1 H1 locs1 → W p l e R s m args below meth c H1 locs1 cells slots Q (F0 m (pc + 3) ls rest)) : W p l e R s m args below meth c H locs cells slots Q (F0 m pc ls (.ref r :: .ref a :: rest)) := by
  have hok : q_okV G (1, lo, hi) (.ref r) := ⟨fun h => absurd (show (1 : Nat) = 0 from h) (by decide), fun _ => ⟨r, rfl, hx1, hx2⟩⟩
  refine q_putv hE hW ht hs hc ty0 hty k hk hf hl hfin hn hfit hok hts hdg fun H1 locs1 vs e0 h0 hw => ?_
  obtain ⟨v0, h1, h2⟩ := h0
  obtain ⟨r0, rfl, -⟩ := h2.2 rfl
  exact kk H1 locs1 _ (q_pR.of e0 h1) hw
theorem q_iald (hE : q_E G p s m args c cc nL own) (hW : q_Wd G ts σ0 H0 σ H locs) (ht : q_T G a = t) {n : Nat} (hs : q_sI t = some (0, n)) {i : Int32} (hin : vp_in i n) (hdg : decode cc pc = .ok (.iaload, 1))
    (kk : ∀ x : Int32, q_A σ a i.toNatClampNeg = x → q_eP t i.toNatClampNeg x.toInt → W p l e R s m args below meth c H locs cells slots Q (F0 m (pc + 1) ls (.int x :: rest))) : W p l e R s m args below meth c H locs cells slots Q (F0 m pc ls (.int i :: .ref a :: rest)) := by
  obtain ⟨hL, f, e0, hv⟩ := hW.1.arr ht hs
  have hlt : i.toNatClampNeg < n := Nat.not_le.mp fun q => hin (Or.inr q)
  obtain ⟨q0, hq⟩ := va_pl_get (X := []) (f := σ) hL
  rw [List.nil_append, e0] at hq
  exact va_iald hE.1.1 hE.1.2.1 hE.2.1 hW.1.1 q0 0 hq rfl hin hdg (kk _ (by simp only [q_A, e0]) (hv _ hlt))
theorem q_zald (hE : q_E G p s m args c cc nL own) (hW : q_Wd G ts σ0 H0 σ H locs) (ht : q_T G a = t) {n : Nat} (hs : q_sI t = some (1, n)) {i : Int32} (hin : vp_in i n) (hdg : decode cc pc = .ok (.baload, 1))
    (kk : ∀ x : Int32, q_A σ a i.toNatClampNeg = x → q_eP t i.toNatClampNeg x.toInt → W p l e R s m args below meth c H locs cells slots Q (F0 m (pc + 1) ls (.int x :: rest))) : W p l e R s m args below meth c H locs cells slots Q (F0 m pc ls (.int i :: .ref a :: rest)) := by
  obtain ⟨hL, f, e0, hv⟩ := hW.1.arr ht hs
  have hlt : i.toNatClampNeg < n := Nat.not_le.mp fun q => hin (Or.inr q)
  obtain ⟨q0, hq⟩ := va_pl_get (X := []) (f := σ) hL
  rw [List.nil_append, e0] at hq
  exact va_zald hE.1.1 hE.1.2.1 hE.2.1 hW.1.1 q0 1 hq rfl hin hdg (kk _ (by simp only [q_A, e0]) (hv _ hlt))
theorem q_cald (hE : q_E G p s m args c cc nL own) (hW : q_Wd G ts σ0 H0 σ H locs) (ht : q_T G a = t) {n : Nat} (hs : q_sI t = some (2, n)) {i : Int32} (hin : vp_in i n) (hdg : decode cc pc = .ok (.caload, 1))
    (kk : ∀ x : Int32, q_A σ a i.toNatClampNeg = x → q_eP t i.toNatClampNeg x.toInt → W p l e R s m args below meth c H locs cells slots Q (F0 m (pc + 1) ls (.int x :: rest))) : W p l e R s m args below meth c H locs cells slots Q (F0 m pc ls (.int i :: .ref a :: rest)) := by
  obtain ⟨hL, f, e0, hv⟩ := hW.1.arr ht hs
  have hlt : i.toNatClampNeg < n := Nat.not_le.mp fun q => hin (Or.inr q)
  obtain ⟨q0, hq⟩ := va_pl_get (X := []) (f := σ) hL
  rw [List.nil_append, e0] at hq
  exact va_cald hE.1.1 hE.1.2.1 hE.2.1 hW.1.1 q0 2 hq rfl hin hdg (kk _ (by simp only [q_A, e0]) (hv _ hlt))
theorem q_okarr {ci n : Nat} (hs : q_sI t = some (ci, n)) {f : Nat → Int32} (h : ∀ i : Nat, i < n → q_eP t i (f i).toInt) : q_ok G t (.inl (q_C G ci, n, .inl f)) := by
  have h3 : q_sO t = none ∧ q_sR t = none := by
    unfold q_sI at hs
    split at hs <;> first | exact ⟨rfl, rfl⟩ | cases hs
  refine ⟨fun o h => ?_, fun o h0 => ?_, fun o h => ?_⟩
  · rw [h3.1] at h; cases h
  · cases hs.symm.trans h0
    exact ⟨f, rfl, h⟩
  · rw [h3.2] at h; cases h
theorem q_iast (hE : q_E G p s m args c cc nL own) (hW : q_Wd G ts σ0 H0 σ H locs) (ht : q_T G a = t) {n : Nat} (hs : q_sI t = some (0, n)) {i x : Int32} (hin : vp_in i n) (hx : q_eP t i.toNatClampNeg x.toInt) (hts : t ∈ ts) (hdg : decode cc pc = .ok (.iastore, 1))
    (kk : ∀ (H1 : Heap) (locs1 : List Loc) (σ1 : q_S), q_pA σ σ1 a i.toNatClampNeg x → q_Wd G ts σ0 H0 σ1 H1 locs1 → W p l e R s m args below meth c H1 locs1 cells slots Q (F0 m (pc + 1) ls rest)) : W p l e R s m args below meth c H locs cells slots Q (F0 m pc ls (.int x :: .int i :: .ref a :: rest)) := by
  obtain ⟨hL, f, e0, hv⟩ := hW.1.arr ht hs
  obtain ⟨q0, hq⟩ := va_pl_get (X := []) (f := σ) hL
  have hq' := hq
  rw [List.nil_append, e0] at hq
  have hst := fun (e9 : va_E) => va_pl_set (X := []) (e := e9) hW.1.2.1 hL hq'
  simp only [List.nil_append] at hst
  refine va_iast hE.1.1 hE.1.2.1 hE.2.1 hW.1.1 hW.1.2.1 hW.2.2 q0 0 hq rfl hin hdg fun H1 locs1 h1 h2 h3 => ?_
  rw [hst] at h1 h2
  refine kk H1 locs1 _ (q_pA.of e0) ⟨hW.1.up hL ?_ h1 h2, hW.2.1.up (by rw [ht]; exact hts), h3⟩
  rw [ht]
  refine q_okarr hs fun j hj => ?_
  by_cases e1 : j = i.toNatClampNeg
  · subst e1; simp only [upd, if_pos]; exact hx
  · simp only [upd, if_neg e1]; exact hv j hj
theorem q_zast (hE : q_E G p s m args c cc nL own) (hW : q_Wd G ts σ0 H0 σ H locs) (ht : q_T G a = t) {n : Nat} (hs : q_sI t = some (1, n)) {i x : Int32} (hin : vp_in i n) (hnr : vp_nar .boolean x = x) (hx : q_eP t i.toNatClampNeg x.toInt) (hts : t ∈ ts) (hdg : decode cc pc = .ok (.bastore, 1))
    (kk : ∀ (H1 : Heap) (locs1 : List Loc) (σ1 : q_S), q_pA σ σ1 a i.toNatClampNeg x → q_Wd G ts σ0 H0 σ1 H1 locs1 → W p l e R s m args below meth c H1 locs1 cells slots Q (F0 m (pc + 1) ls rest)) : W p l e R s m args below meth c H locs cells slots Q (F0 m pc ls (.int x :: .int i :: .ref a :: rest)) := by
  obtain ⟨hL, f, e0, hv⟩ := hW.1.arr ht hs
  obtain ⟨q0, hq⟩ := va_pl_get (X := []) (f := σ) hL
  have hq' := hq
  rw [List.nil_append, e0] at hq
  have hst := fun (e9 : va_E) => va_pl_set (X := []) (e := e9) hW.1.2.1 hL hq'
  simp only [List.nil_append] at hst
  refine va_zast hE.1.1 hE.1.2.1 hE.2.1 hW.1.1 hW.1.2.1 hW.2.2 q0 1 hq rfl hin hdg fun H1 locs1 h1 h2 h3 => ?_
  rw [hst] at h1 h2
  rw [hnr] at h1 h2
  refine kk H1 locs1 _ (q_pA.of e0) ⟨hW.1.up hL ?_ h1 h2, hW.2.1.up (by rw [ht]; exact hts), h3⟩
  rw [ht]
  refine q_okarr hs fun j hj => ?_
  by_cases e1 : j = i.toNatClampNeg
  · subst e1; simp only [upd, if_pos]; exact hx
  · simp only [upd, if_neg e1]; exact hv j hj
theorem q_cast (hE : q_E G p s m args c cc nL own) (hW : q_Wd G ts σ0 H0 σ H locs) (ht : q_T G a = t) {n : Nat} (hs : q_sI t = some (2, n)) {i x : Int32} (hin : vp_in i n) (hnr : vp_nar .char x = x) (hx : q_eP t i.toNatClampNeg x.toInt) (hts : t ∈ ts) (hdg : decode cc pc = .ok (.castore, 1))
    (kk : ∀ (H1 : Heap) (locs1 : List Loc) (σ1 : q_S), q_pA σ σ1 a i.toNatClampNeg x → q_Wd G ts σ0 H0 σ1 H1 locs1 → W p l e R s m args below meth c H1 locs1 cells slots Q (F0 m (pc + 1) ls rest)) : W p l e R s m args below meth c H locs cells slots Q (F0 m pc ls (.int x :: .int i :: .ref a :: rest)) := by
  obtain ⟨hL, f, e0, hv⟩ := hW.1.arr ht hs
  obtain ⟨q0, hq⟩ := va_pl_get (X := []) (f := σ) hL
  have hq' := hq
  rw [List.nil_append, e0] at hq
  have hst := fun (e9 : va_E) => va_pl_set (X := []) (e := e9) hW.1.2.1 hL hq'
  simp only [List.nil_append] at hst
  refine va_cast hE.1.1 hE.1.2.1 hE.2.1 hW.1.1 hW.1.2.1 hW.2.2 q0 2 hq rfl hin hdg fun H1 locs1 h1 h2 h3 => ?_
  rw [hst] at h1 h2
  rw [hnr] at h1 h2
  refine kk H1 locs1 _ (q_pA.of e0) ⟨hW.1.up hL ?_ h1 h2, hW.2.1.up (by rw [ht]; exact hts), h3⟩
  rw [ht]
  refine q_okarr hs fun j hj => ?_
  by_cases e1 : j = i.toNatClampNeg
  · subst e1; simp only [upd, if_pos]; exact hx
  · simp only [upd, if_neg e1]; exact hv j hj
theorem q_aald (hE : q_E G p s m args c cc nL own) (hW : q_Wd G ts σ0 H0 σ H locs) (ht : q_T G a = t) {ci n lo hi : Nat} (hs : q_sR t = some (ci, n, lo, hi)) {i : Int32} (hin : vp_in i n) (hdg : decode cc pc = .ok (.aaload, 1))
    (kk : ∀ r : Nat, q_Q σ a i.toNatClampNeg = r → (lo : Int) ≤ (q_T G r : Int) → (q_T G r : Int) ≤ (hi : Int) → W p l e R s m args below meth c H locs cells slots Q (F0 m (pc + 1) ls (.ref r :: rest))) : W p l e R s m args below meth c H locs cells slots Q (F0 m pc ls (.int i :: .ref a :: rest)) := by
  obtain ⟨hL, f, e0, hv⟩ := hW.1.arq ht hs
  have hlt : i.toNatClampNeg < n := Nat.not_le.mp fun q => hin (Or.inr q)
  obtain ⟨r, hr, h1, h2⟩ := hv _ hlt
  obtain ⟨q0, hq⟩ := va_pl_get (X := []) (f := σ) hL
  rw [List.nil_append, e0] at hq
  have kx := kk r (by simp only [q_Q, e0, hr]; rfl) (by exact_mod_cast h1) (by exact_mod_cast h2)
  have hty : ∃ ty : FieldType, ty.isReference = true ∧ ArrOfT s (q_C G ci) ty := by
    have hk := hE.2.1.2
    unfold q_sR at hs
    split at hs <;> first | (cases hs; first | exact ⟨_, rfl, (hk 3 _ rfl).1⟩ | exact ⟨_, rfl, (hk 4 _ rfl).1⟩ | exact ⟨_, rfl, (hk 5 _ rfl).1⟩ | exact ⟨_, rfl, (hk 6 _ rfl).1⟩ | exact ⟨_, rfl, (hk 7 _ rfl).1⟩ | exact ⟨_, rfl, (hk 8 _ rfl).1⟩) | cases hs
  obtain ⟨ty, g1, g2⟩ := hty
  exact W.aald (v := va_rf (f i.toNatClampNeg)) (ty := ty) hE.1.1 hE.1.2.1 (hW.1.1 q0 _ hq) (g2 n (fun j => va_rf (f j))) g1 (fun q => by cases q) (by show ¬ (i < 0 ∨ (arrV _ _ _).slots.size ≤ _); rw [arrV_size]; exact hin) (by show (arrV _ _ _).slots[_]? = _; rw [arrV_read _ _ hlt]) rfl rfl hdg (by rw [hr]; exact kx)
theorem q_alen (hE : q_E G p s m args c cc nL own) (hW : q_Wd G ts σ0 H0 σ H locs) (ht : q_T G a = t) {ci n lo hi : Nat} (hs : q_sR t = some (ci, n, lo, hi)) (hdg : decode cc pc = .ok (.arraylength, 1))
    (kk : W p l e R s m args below meth c H locs cells slots Q (F0 m (pc + 1) ls (.int n.toInt32 :: rest))) : W p l e R s m args below meth c H locs cells slots Q (F0 m pc ls (.ref a :: rest)) := by
  obtain ⟨hL, f, e0, hv⟩ := hW.1.arq ht hs
  obtain ⟨q0, hq⟩ := va_pl_get (X := []) (f := σ) hL
  rw [List.nil_append, e0] at hq
  have hty : ∃ ty : FieldType, ArrOfT s (q_C G ci) ty := by
    have hk := hE.2.1.2
    unfold q_sR at hs
    split at hs <;> first | (cases hs; first | exact ⟨_, (hk 3 _ rfl).1⟩ | exact ⟨_, (hk 4 _ rfl).1⟩ | exact ⟨_, (hk 5 _ rfl).1⟩ | exact ⟨_, (hk 6 _ rfl).1⟩ | exact ⟨_, (hk 7 _ rfl).1⟩ | exact ⟨_, (hk 8 _ rfl).1⟩) | cases hs
  obtain ⟨ty, g2⟩ := hty
  exact W.alen (n := n.toInt32) hE.1.1 hE.1.2.1 (hW.1.1 q0 _ hq) (g2 n (fun j => va_rf (f j))) (by show (arrV _ _ _).slots.size.toInt32 = _; rw [arrV_size]) rfl rfl hdg kk
/-- a receiver -/
theorem q_recv (hE : q_E G p s m args c cc nL own) (hW : q_Wd G ts σ0 H0 σ H locs) (ht : q_T G a = t) {ci : Nat} {fs : List (Nat × Int × Int)} (hs : q_sO t = some (ci, fs)) {C : String} {T : u_T} {N : Nat} (hc : q_cls ci C T N) : ∃ cell : Cell, H[a]? = some cell ∧ cell.vm.isStatics = false ∧ s.vm.findClass C = some cell.cls := by
  obtain ⟨hL, vs, e0, -, -⟩ := hW.1.obj ht hs
  obtain ⟨q0, hq⟩ := va_pl_get (X := []) (f := σ) hL
  rw [List.nil_append, e0] at hq
  exact va_recv hE.2.1 hW.1.1 hc.1 hq
end QR
