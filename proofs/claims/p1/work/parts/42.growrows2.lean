/-! rows of rows; calls that make nothing; tags' bounds -/
theorem q_hd {A : Nat → Prop} {q : Nat} {e : va_E} {M : List Nat} {f : Nat → va_E} (h : va_D A ([(q, e)] ++ va_pl M f)) : q ∉ M := fun hm => by
  obtain ⟨j, hj⟩ := List.getElem?_of_mem (show (q, f q) ∈ va_pl M f from List.mem_map.mpr ⟨q, hm, rfl⟩)
  have := h.1 0 (j + 1) (q, e) (q, f q) rfl (by rw [List.singleton_append, List.getElem?_cons_succ]; exact hj) rfl
  omega
section QI
variable {p : Program} {l : Launch} {e : Env} {R : Room} {s : State} {m : MethodId} {args : Array Value} {below : List Frame} {meth : Method} {c : Code} {H : Heap} {locs : List Loc} {cells slots : Nat} {Q : State → Prop}
variable {cc bytes : ByteArray} {nL pc d maxL n index mc ms : Nat} {own C : String} {y : MethodName} {ls : Array Slot} {As rest st0 : List Value} {G : q_G} {L : List Nat} {T : Nat → Nat} {σ : q_S} {a b t : Nat} {dn : List Nat} {ex : List (Nat × Nat)} {H0 : Heap}
theorem q_newM (hE : q_E G p s m args c cc nL own) (hB : q_B G ≤ s.heap.size) (hA : q_AA s) (hW : q_Wc G s.heap L T σ H locs) {N K lo hi ti : Nat} (t : Nat) (hs : q_sR t = some (8, N, lo, hi)) (hsi : q_sI ti = some (0, K)) (hlo : lo ≤ ti) (hhi : ti ≤ hi) (ht : t ≠ 0) (hti : ti ≠ 0) (hcl : Cond.classLink own index ("[" ++ (FieldType.array FieldType.int).toString) ∈ wsL_law) (harr : Cond.arrayClass .int ∈ wsL_law) {n9 k9 : Int32} (hn : ¬ n9 < 0) (hk : ¬ k9 < 0) (hN : n9.toNatClampNeg = N) (hK : k9.toNatClampNeg = K) (hb1 : N * 4 ≤ 536870912) (hb2 : K * componentBytes .int ≤ 536870912) (hb3 : K ≤ 536870912) (hcells : cells + (1 + N) ≤ R.cells) (hslots : slots + (N + N * K) ≤ R.slots) (hdg : decode cc pc = .ok (.multianewarray index 2, 4))
    (kk : ∀ (q : Nat) (L1 : List Nat) (T1 : Nat → Nat) (σ1 : q_S) (H1 : Heap), q_Wc G s.heap L1 T1 σ1 H1 locs → q_Gw L T σ L1 T1 σ1 q → q ∉ L → T q = 0 → T1 q = t → W p l e R s m args below meth c H1 locs (cells + 1 + N) (slots + N + N * K) Q (F0 m (pc + 4) ls (.ref q :: rest))) : W p l e R s m args below meth c H locs cells slots Q (F0 m pc ls (.int k9 :: .int n9 :: rest)) := by
  have hcy : s.vm.findClass (FieldType.array FieldType.int).toString = some (q_C G 0) := (hE.2.1.2 0 (q_C G 0, .int) rfl).2
  refine va_mna (X := []) (L := L) (f := σ) (ty := .int) (cy := q_C G 0) (z := (K, .inl (fun _ => 0))) hE.1.1 hE.1.2.1 hE.1.2.2.2.1 (hE.w hcl) hA (hE.w harr) hcy hE.2.1 hW.1.1 hW.1.2.1 hW.2 (fun q h => Nat.le_trans hB h) hn hk hN hK hb1 hb2 hb3 rfl rfl hcells hslots (fun c => by show ({ cls := c, slots := Array.replicate K (Value.int 0), vm := .none } : Cell) = _; rw [arrV_new]; rfl) hdg fun q r cA H1 hr hrL h0 h1 h2 h3 => ?_
  have hcA : cA = q_C G 8 := q_RAuq (h0.2 (q_tys (q_C G)).length (cA, .array .int) (by simp)).2 (hE.2.1.2 8 (q_C G 8, .array .int) rfl).2
  subst hcA
  generalize hrw : (List.range N).map r = rows at h1 h2
  rw [List.nil_append] at h1 h2
  have hmem : ∀ x, x ∈ rows → ∃ i, i < N ∧ r i = x := fun x hx => by
    rw [← hrw] at hx
    obtain ⟨i, hi, e⟩ := List.mem_map.mp hx
    exact ⟨i, List.mem_range.mp hi, e⟩
  have hnr : ∀ x, x ∈ L → x ∉ rows := fun x hx hx2 => by
    obtain ⟨i, hi, e⟩ := hmem x hx2
    exact hrL i hi (e ▸ hx)
  have hnq : q ∉ L ++ rows := q_hd h2
  have hqL : q ∉ L := fun h => hnq (List.mem_append_left _ h)
  have hqr : q ∉ rows := fun h => hnq (List.mem_append_right _ h)
  have hT0 : ∀ x, x ∉ L → T x = 0 := fun x hx => Classical.byContradiction fun h => hx (hW.1.inL x h)
  have hpl : va_pl (q :: (L ++ rows)) (va_up (vr_up σ rows (.inl (q_C G 0, K, .inl (fun _ => 0)))) q (.inl (q_C G 8, N, .inr (.inr (.inr (.inr (fun i => if i < N then some (r i) else none))))))) = [(q, .inl (q_C G 8, N, .inr (.inr (.inr (.inr (fun i => if i < N then some (r i) else none))))))] ++ va_pl (L ++ rows) (vr_up σ rows (.inl (q_C G 0, K, .inl (fun _ => 0)))) := by
    unfold va_pl
    rw [List.map_cons, va_up_self, List.singleton_append]
    congr 1
    apply List.map_congr_left
    intro x hx
    rw [va_up_ne _ _ (show x ≠ q from fun e => hnq (e ▸ hx))]
  rw [← hpl] at h1 h2
  have hmono : ∀ x, T x ≠ 0 → va_up (vr_up T rows ti) q t x = T x := fun x hx => by
    have hxL := hW.1.inL x hx
    rw [va_up_ne _ _ (show x ≠ q from fun e => hqL (e ▸ hxL)), vr_up_ne (hnr x hxL)]
  have hro : ∀ i, i < N → va_up (vr_up T rows ti) q t (r i) = ti := fun i hi => by
    have hm : r i ∈ rows := by rw [← hrw]; exact List.mem_map.mpr ⟨i, List.mem_range.mpr hi, rfl⟩
    rw [va_up_ne _ _ (show r i ≠ q from fun e => hqr (e ▸ hm)), vr_up_in hm]
  refine kk q (q :: (L ++ rows)) (va_up (vr_up T rows ti) q t) _ H1 ⟨⟨h1, h2, fun x hx => ?_⟩, h3⟩ ⟨fun x hx => List.mem_cons_of_mem _ (List.mem_append_left _ hx), hmono, fun x hx _ => ?_, fun x hx h9 => ?_⟩ hqL (hT0 q hqL) (va_up_self _ _ _)
  · have hx : va_up (vr_up T rows ti) q t x ≠ 0 := hx
    show x ∈ q :: (L ++ rows) ∧ q_ok (q_Gx G (q :: (L ++ rows)) (va_up (vr_up T rows ti) q t)) (va_up (vr_up T rows ti) q t x) (va_up (vr_up σ rows (.inl (q_C G 0, K, .inl (fun _ => 0)))) q (.inl (q_C G 8, N, .inr (.inr (.inr (.inr (fun i => if i < N then some (r i) else none)))))) x)
    by_cases e1 : x = q
    · subst e1
      refine ⟨List.mem_cons_self, ?_⟩
      rw [va_up_self, va_up_self]
      refine ⟨fun o h => ?_, fun o h => ?_, fun o h => ?_⟩
      · rw [(q_sR_O hs).1] at h; cases h
      · rw [(q_sR_O hs).2] at h; cases h
      · cases hs.symm.trans h
        refine ⟨_, rfl, fun i h7 => ⟨r i, if_pos h7, ?_, ?_⟩⟩
        · show lo ≤ va_up (vr_up T rows ti) x t (r i); rw [hro i h7]; exact hlo
        · show va_up (vr_up T rows ti) x t (r i) ≤ hi; rw [hro i h7]; exact hhi
    · rw [va_up_ne _ _ e1, va_up_ne _ _ e1]
      by_cases e2 : x ∈ rows
      · refine ⟨List.mem_cons_of_mem _ (List.mem_append_right _ e2), ?_⟩
        rw [vr_up_in e2, vr_up_in e2]
        exact q_okarr (G := q_Gx G (q :: (L ++ rows)) (va_up (vr_up T rows ti) q t)) hsi (fun i _ => q_epZ hsi i)
      · rw [va_up_ne _ _ e1, vr_up_ne e2] at hx
        obtain ⟨g1, g2⟩ := hW.1.2.2 x hx
        refine ⟨List.mem_cons_of_mem _ (List.mem_append_left _ g1), ?_⟩
        rw [vr_up_ne e2, vr_up_ne e2]
        exact q_ok.mono (G := G) (L := L) (T := T) hmono g2
  · rw [va_up_ne _ _ (show x ≠ q from fun e => hqL (e ▸ hx)), va_up_ne _ _ (show x ≠ q from fun e => hqL (e ▸ hx)), vr_up_ne (hnr x hx), vr_up_ne (hnr x hx)]
    exact ⟨rfl, fun _ => rfl⟩
  · by_cases e1 : x = q
    · subst e1
      rw [va_up_self, va_up_self]
      refine ⟨fun o k lo hi h8 => ?_, fun o i h8 => ?_⟩
      · rw [(q_sR_O hs).1] at h8; cases h8
      · rw [(q_sR_O hs).2] at h8; cases h8
    · rw [va_up_ne _ _ e1] at hx ⊢
      rw [va_up_ne _ _ e1]
      by_cases e2 : x ∈ rows
      · rw [vr_up_in e2, vr_up_in e2]
        refine ⟨fun o k lo hi h8 => ?_, fun o i h8 hi => Or.inr (Or.inr rfl)⟩
        rw [(q_sI_O h8).1] at hsi; cases hsi
      · rw [vr_up_ne e2] at hx; exact absurd h9 hx
/-- a call that makes nothing, in a constructor -/
theorem q_govC {a9 : Array Value} {post : q_S → Prop} {t1 : List Nat} (hW : q_Wc G s.heap L T σ H locs) (hr : va_Run p l e R s m args below meth c H locs cells slots 0 0 (F0 m pc ls st0) rest (q_Qv (q_Gx G L T) t1 σ post a9) (q_N G)) (ht : ∀ x, x ∈ t1 → x = 10)
    (kk : ∀ (σ1 : q_S) (H1 : Heap) (locs1 : List Loc), (∀ b, q_Gw L T σ L T σ1 b) → q_Wc G s.heap L T σ1 H1 locs1 → W p l e R s m args below meth c H1 locs1 cells slots Q (F0 m (pc + 3) ls rest)) : W p l e R s m args below meth c H locs cells slots Q (F0 m pc ls st0) :=
  va_callv hr hW.2 (fun _ _ h => h) (fun _ h => h) fun σ1 t H1 locs1 ht9 hvm hp hB hz hk hS => kk σ1 H1 locs1 (fun b => ⟨fun _ z => z, fun _ _ => rfl, fun x _ _ => ⟨rfl, fun h10 => hp.2 x (fun z => h10 (ht _ z))⟩, fun _ z1 z2 => absurd z2 z1⟩) ⟨by rw [← ht9]; exact hB, hS⟩
theorem q_Po.here (h : q_Po L T σ a t dn ex) : a ∈ L ∧ T a = 0 := ⟨h.1, h.2.1⟩
theorem q_Pr.here (h : q_Pr G L T σ a t n) : a ∈ L ∧ T a = 0 := ⟨h.1, h.2.1⟩
theorem q_1 {r k : Nat} (h : T r = k) {lo : Int} (h1 : lo ≤ (k : Int)) : lo ≤ (T r : Int) := by rw [h]; exact h1
theorem q_2 {r k : Nat} (h : T r = k) {hi : Int} (h1 : (k : Int) ≤ hi) : (T r : Int) ≤ hi := by rw [h]; exact h1
end QI
