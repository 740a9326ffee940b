/-! the world grows: constructors -/
def q_Gx (G : q_G) (L : List Nat) (T : Nat → Nat) : q_G := (G.1, G.2.1, G.2.2.1, L, T, G.2.2.2.2.2)
/-- what an int field holds at first -/
def q_iv (t k : Nat) : Int32 := if t = 7 ∧ k = 7 then 8 else if t = 40 ∧ k = 8 then 8 else 0
/-- what an element holds at first (the rows 10 and the places 54 .. 56 of row 46 apart) -/
def q_ia (t i : Nat) (x : Int32) : Prop := t = 10 ∨ (t = 46 ∧ 54 ≤ i ∧ i ≤ 56) ∨ x = 0
/-- a cell as it is at first -/
def q_Z (t : Nat) (e : va_E) : Prop := (∀ o (k : Nat) (lo hi : Int), q_sO t = some o → o.2[k]? = some (0, lo, hi) → q_I (fun _ => e) 0 k = q_iv t k) ∧ (∀ o (i : Nat), q_sI t = some o → i < o.2 → q_ia t i (q_A (fun _ => e) 0 i))
theorem q_Z10 (e : va_E) : q_Z 10 e := ⟨fun o k lo hi h => (by cases h), fun o i h hi => Or.inl rfl⟩
/-- from one world to a larger one: what was there stays, but b's own cell (and rows of tag 10); what is told newly is as at first -/
def q_Gw (L : List Nat) (T : Nat → Nat) (σ : q_S) (L' : List Nat) (T' : Nat → Nat) (σ' : q_S) (b : Nat) : Prop :=
  (∀ a, a ∈ L → a ∈ L') ∧ (∀ a, T a ≠ 0 → T' a = T a) ∧ (∀ a, a ∈ L → a ≠ b → T' a = T a ∧ (T a ≠ 10 → σ' a = σ a)) ∧ (∀ a, T' a ≠ 0 → T a = 0 → q_Z (T' a) (σ' a))
theorem q_Gw.rf {L : List Nat} {T : Nat → Nat} {σ : q_S} (b : Nat) : q_Gw L T σ L T σ b := ⟨fun _ h => h, fun _ _ => rfl, fun _ _ _ => ⟨rfl, fun _ => rfl⟩, fun _ h1 h2 => absurd h2 h1⟩
theorem q_Gw.tr {L0 L L' : List Nat} {T0 T T' : Nat → Nat} {σ0 σ σ' : q_S} {b b' : Nat} (h1 : q_Gw L0 T0 σ0 L T σ b) (h2 : q_Gw L T σ L' T' σ' b') (hb : b' = b ∨ b' ∉ L0) (h0 : T b' = 0) (hT : ∀ a, T a ≠ 0 → a ∈ L) : q_Gw L0 T0 σ0 L' T' σ' b := by
  refine ⟨fun a h => h2.1 a (h1.1 a h), fun a h => ?_, fun a h hn => ?_, fun a h3 h4 => ?_⟩
  · have e := h1.2.1 a h
    exact (h2.2.1 a (by rw [e]; exact h)).trans e
  · have hb' : a ≠ b' := fun e => hb.elim (fun z => hn (e.trans z)) (fun z => z (e ▸ h))
    obtain ⟨e1, e2⟩ := h1.2.2.1 a h hn
    obtain ⟨e3, e4⟩ := h2.2.2.1 a (h1.1 a h) hb'
    exact ⟨e3.trans e1, fun z => (e4 (by rw [e1]; exact z)).trans (e2 z)⟩
  · by_cases hz : T a = 0
    · exact h2.2.2.2 a h3 hz
    · have hne : a ≠ b' := fun e => hz (e ▸ h0)
      obtain ⟨e3, e4⟩ := h2.2.2.1 a (hT a hz) hne
      have hq := h1.2.2.2 a hz h4
      rw [e3]
      by_cases h10 : T a = 10
      · rw [h10]; exact q_Z10 _
      · rw [e4 h10]; exact hq
theorem q_Ow.inL {G : q_G} {L : List Nat} {T : Nat → Nat} {σ : q_S} {H : Heap} (h : q_Ow (q_Gx G L T) σ H) (a : Nat) (ha : T a ≠ 0) : a ∈ L := (h.2.2 a ha).1
/-- tags' lower ends aren't 0 -/
theorem q_lo1 {t : Nat} {o : Nat × List (Nat × Int × Int)} (h : q_sO t = some o) : ∀ q ∈ o.2, q.1 = 1 → 1 ≤ q.2.1 := by
  have hh : o.2.all (fun q => q.1 != 1 || decide (1 ≤ q.2.1)) = true := by
    unfold q_sO at h
    split at h <;> first | (cases h; rfl) | cases h
  intro q hq h1
  have := List.all_eq_true.mp hh q hq
  rw [h1] at this
  simpa using this
theorem q_lo2 {t : Nat} {o : Nat × Nat × Nat × Nat} (h : q_sR t = some o) : 1 ≤ o.2.2.1 := by
  unfold q_sR at h
  split at h <;> first | (cases h; decide) | cases h
/-- what is well told stays so when more is told -/
theorem q_ok.mono {G : q_G} {L L' : List Nat} {T T' : Nat → Nat} (hT : ∀ a, T a ≠ 0 → T' a = T a) {t : Nat} {e : va_E} (h : q_ok (q_Gx G L T) t e) : q_ok (q_Gx G L' T') t e := by
  refine ⟨fun o ho => ?_, fun o ho => h.2.1 o ho, fun o ho => ?_⟩
  · obtain ⟨vs, h1, h2, h3⟩ := h.1 o ho
    refine ⟨vs, h1, h2, fun k q hq => ?_⟩
    obtain ⟨v, hv, g1, g2⟩ := h3 k q hq
    refine ⟨v, hv, g1, fun h9 => ?_⟩
    obtain ⟨r, e1, e2, e3⟩ := g2 h9
    have hl := q_lo1 ho q (List.mem_of_getElem? hq) h9
    have e2 : q.2.1 ≤ (T r : Int) := e2
    have e3 : (T r : Int) ≤ q.2.2 := e3
    have hr : T' r = T r := hT r (by omega)
    exact ⟨r, e1, by show q.2.1 ≤ (T' r : Int); rw [hr]; exact e2, by show (T' r : Int) ≤ q.2.2; rw [hr]; exact e3⟩
  · obtain ⟨f, h1, h2⟩ := h.2.2 o ho
    refine ⟨f, h1, fun i hi => ?_⟩
    obtain ⟨r, e1, e2, e3⟩ := h2 i hi
    have hl := q_lo2 ho
    have e2 : o.2.2.1 ≤ T r := e2
    have e3 : T r ≤ o.2.2.2 := e3
    have hr : T' r = T r := hT r (by omega)
    exact ⟨r, e1, by show o.2.2.1 ≤ T' r; rw [hr]; exact e2, by show T' r ≤ o.2.2.2; rw [hr]; exact e3⟩
/-- the world of a constructor's walk -/
def q_Wc (G : q_G) (H0 : Heap) (L : List Nat) (T : Nat → Nat) (σ : q_S) (H : Heap) (locs : List Loc) : Prop := q_Ow (q_Gx G L T) σ H ∧ va_S (q_N G) H0 H locs
/-- an object on its way: of tag t to be, the fields dn are as they shall be, the others as at birth; ex: references that are known -/
def q_Po (L : List Nat) (T : Nat → Nat) (σ : q_S) (a t : Nat) (dn : List Nat) (ex : List (Nat × Nat)) : Prop :=
  a ∈ L ∧ T a = 0 ∧ ∃ o vs, q_sO t = some o ∧ σ a = .inr (o.1, vs) ∧ vs.length = o.2.length ∧ (∀ (k : Nat) q, o.2[k]? = some q → (q.1 = 0 → vs[k]? = some (.int (if k ∈ dn then q_iv t k else 0))) ∧ (q.1 = 1 → k ∈ dn → ∃ r : Nat, vs[k]? = some (.ref r) ∧ q.2.1 ≤ (T r : Int) ∧ (T r : Int) ≤ q.2.2)) ∧ ∀ x ∈ ex, vs[x.1]? = some (.ref x.2)
/-- a row of cells on its way: its first m are there -/
def q_Pr (G : q_G) (L : List Nat) (T : Nat → Nat) (σ : q_S) (a t m : Nat) : Prop :=
  a ∈ L ∧ T a = 0 ∧ ∃ o f, q_sR t = some o ∧ σ a = .inl (q_C G o.1, o.2.1, .inr (.inr (.inr (.inr f)))) ∧ ∀ i : Nat, i < m → ∃ r, f i = some r ∧ o.2.2.1 ≤ T r ∧ T r ≤ o.2.2.2
section QG
variable {G : q_G} {L L' : List Nat} {T T' : Nat → Nat} {σ σ' : q_S} {a b t m : Nat} {dn : List Nat} {ex : List (Nat × Nat)}
theorem q_Gw.tag (g : q_Gw L T σ L' T' σ' b) {t : Nat} (h : T a = t) (h0 : t ≠ 0) : T' a = t := (g.2.1 a (by rw [h]; exact h0)).trans h
theorem q_Po.mv (h : q_Po L T σ a t dn ex) (g : q_Gw L T σ L' T' σ' b) (hn : a ≠ b) : q_Po L' T' σ' a t dn ex := by
  obtain ⟨h1, h2, o, vs, h3, h4, h5, h6, h7⟩ := h
  obtain ⟨e1, e2⟩ := g.2.2.1 a h1 hn
  refine ⟨g.1 a h1, e1.trans h2, o, vs, h3, (e2 (by rw [h2]; decide)).trans h4, h5, fun k q hq => ⟨(h6 k q hq).1, fun h9 hk => ?_⟩, h7⟩
  obtain ⟨r, r1, r2, r3⟩ := (h6 k q hq).2 h9 hk
  have hl := q_lo1 h3 q (List.mem_of_getElem? hq) h9
  have hr : T' r = T r := g.2.1 r (by omega)
  exact ⟨r, r1, by rw [hr]; exact r2, by rw [hr]; exact r3⟩
theorem q_Pr.mv (h : q_Pr G L T σ a t m) (g : q_Gw L T σ L' T' σ' b) (hn : a ≠ b) : q_Pr G L' T' σ' a t m := by
  obtain ⟨h1, h2, o, f, h3, h4, h5⟩ := h
  obtain ⟨e1, e2⟩ := g.2.2.1 a h1 hn
  refine ⟨g.1 a h1, e1.trans h2, o, f, h3, (e2 (by rw [h2]; decide)).trans h4, fun i hi => ?_⟩
  obtain ⟨r, r1, r2, r3⟩ := h5 i hi
  have hl := q_lo2 h3
  have hr : T' r = T r := g.2.1 r (by omega)
  exact ⟨r, r1, by rw [hr]; exact r2, by rw [hr]; exact r3⟩
theorem q_Po.nr (h : q_Po L T σ a t dn ex) {b u : Nat} (g : q_Pr G L T σ b u m) : a ≠ b := by
  obtain ⟨-, -, o, vs, -, h4, -⟩ := h
  obtain ⟨-, -, o', f, -, g4, -⟩ := g
  intro e
  rw [e, g4] at h4
  cases h4
theorem q_Po.nL (h : q_Po L T σ a t dn ex) (g : b ∉ L) : a ≠ b := fun e => g (e ▸ h.1)
theorem q_Pr.nL (h : q_Pr G L T σ a t m) (g : b ∉ L) : a ≠ b := fun e => g (e ▸ h.1)
theorem q_Po.fr (h : q_Po L T σ a t dn ex) {L0 : List Nat} {T0 : Nat → Nat} {σ0 : q_S} {c : Nat} (g : q_Gw L0 T0 σ0 L T σ c) (hb : b ∉ L) : b ∉ L0 := fun q => hb (g.1 b q)
/-- a reference that is known is told -/
theorem q_Po.know (h : q_Po L T σ a t dn ex) {k r : Nat} (hx : (k, r) ∈ ex) {o : Nat × List (Nat × Int × Int)} (ho : q_sO t = some o) {lo hi : Int} (hf : o.2[k]? = some (1, lo, hi)) (h1 : lo ≤ (T r : Int)) (h2 : (T r : Int) ≤ hi) : q_Po L T σ a t (k :: dn) ex := by
  obtain ⟨g1, g2, o', vs, h3, h4, h5, h6, h7⟩ := h
  cases ho.symm.trans h3
  refine ⟨g1, g2, o, vs, h3, h4, h5, fun j q hq => ⟨fun h9 => ?_, fun h9 hj => ?_⟩, h7⟩
  · have hjk : j ≠ k := fun e => by subst e; cases hq.symm.trans hf; cases h9
    rw [(h6 j q hq).1 h9]
    simp [hjk]
  · by_cases e : j = k
    · subst e
      cases hq.symm.trans hf
      exact ⟨r, h7 _ hx, h1, h2⟩
    · exact (h6 j q hq).2 h9 ((List.mem_cons.mp hj).resolve_left e)
/-- what a field shall hold lies between its bounds -/
theorem q_ivV {t : Nat} {o : Nat × List (Nat × Int × Int)} (h : q_sO t = some o) : ∀ (k : Nat) (q : Nat × Int × Int), o.2[k]? = some q → q.1 = 0 → q_V q.2.1 q.2.2 (q_iv t k) := by
  have hh : ((List.range o.2.length).all fun k => match o.2[k]? with | some q => q.1 != 0 || (decide (q.2.1 ≤ (q_iv t k).toInt) && decide ((q_iv t k).toInt ≤ q.2.2)) | none => true) = true := by
    unfold q_sO at h
    split at h <;> first | (cases h; decide +kernel) | cases h
  intro k q hq h0
  have hk := (List.getElem?_eq_some_iff.mp hq).1
  have := List.all_eq_true.mp hh k (List.mem_range.mpr hk)
  rw [hq] at this
  simp only [h0] at this
  simpa [q_V] using this
theorem q_epZ {t : Nat} {o : Nat × Nat} (h : q_sI t = some o) (i : Nat) : q_eP t i 0 := by
  unfold q_sI at h
  split at h <;> first | exact trivial | exact ⟨by decide, by decide⟩ | exact fun _ _ => ⟨by decide, by decide⟩ | exact ⟨by decide, Or.inl (by decide)⟩ | cases h
theorem q_sO_R {t : Nat} {o} (h : q_sO t = some o) : q_sR t = none := (q_sI_O h).2
/-- a cell is told: the same heap -/
theorem q_tell {H H0 : Heap} {locs : List Loc} (hW : q_Wc G H0 L T σ H locs) (ha : a ∈ L) (h0 : T a = 0) (hok : q_ok (q_Gx G L (va_up T a t)) t (σ a)) (hz : q_Z t (σ a)) : q_Wc G H0 L (va_up T a t) σ H locs ∧ q_Gw L T σ L (va_up T a t) σ a ∧ va_up T a t a = t := by
  have hT : ∀ b, T b ≠ 0 → va_up T a t b = T b := fun b hb => va_up_ne _ _ (fun e => hb (e ▸ h0))
  refine ⟨⟨⟨hW.1.1, hW.1.2.1, fun b hb => ?_⟩, hW.2⟩, ⟨fun _ h => h, hT, fun b _ hn => ⟨va_up_ne _ _ hn, fun _ => rfl⟩, fun b h1 h2 => ?_⟩, va_up_self _ _ _⟩
  · by_cases e : b = a
    · subst e
      exact ⟨ha, by show q_ok (q_Gx G L (va_up T b t)) (va_up T b t b) (σ b); rw [va_up_self]; exact hok⟩
    · have hb' : T b ≠ 0 := fun z => hb (by show va_up T a t b = 0; rw [va_up_ne _ _ e]; exact z)
      obtain ⟨g1, g2⟩ := hW.1.2.2 b hb'
      refine ⟨g1, ?_⟩
      show q_ok (q_Gx G L (va_up T a t)) (va_up T a t b) (σ b)
      rw [va_up_ne _ _ e]
      exact q_ok.mono (G := G) (L := L) (L' := L) hT g2
  · by_cases e : b = a
    · subst e; rw [va_up_self]; exact hz
    · rw [va_up_ne _ _ e] at h1; exact absurd h2 h1
theorem q_Po.tell {H H0 : Heap} {locs : List Loc} (hW : q_Wc G H0 L T σ H locs) (h : q_Po L T σ a t dn ex) {o : Nat × List (Nat × Int × Int)} (ho : q_sO t = some o) (hd : (List.range o.2.length).all (fun k => decide (k ∈ dn) || (match o.2[k]? with | some q => q.1 == 0 && decide (q_iv t k = 0) | none => true)) = true) (ht : t ≠ 0) : q_Wc G H0 L (va_up T a t) σ H locs ∧ q_Gw L T σ L (va_up T a t) σ a ∧ va_up T a t a = t := by
  obtain ⟨g1, g2, o', vs, h3, h4, h5, h6, h7⟩ := h
  cases ho.symm.trans h3
  have hT : ∀ b, T b ≠ 0 → va_up T a t b = T b := fun b hb => va_up_ne _ _ (fun e => hb (e ▸ g2))
  have hi : ∀ (k : Nat) q, o.2[k]? = some q → q.1 = 0 → vs[k]? = some (.int (q_iv t k)) := fun k q hq h0 => by
    have hk := (List.getElem?_eq_some_iff.mp hq).1
    have hd' := List.all_eq_true.mp hd k (List.mem_range.mpr hk)
    rw [hq] at hd'
    rw [(h6 k q hq).1 h0]
    by_cases hm : k ∈ dn
    · simp [hm]
    · simp [hm] at hd' ⊢
      exact hd'.2.symm
  refine q_tell hW g1 g2 ?_ ?_
  · rw [h4]
    refine ⟨fun o2 h9 => ?_, fun o2 h9 => ?_, fun o2 h9 => ?_⟩
    · cases ho.symm.trans h9
      refine ⟨vs, rfl, h5, fun k q hq => ?_⟩
      by_cases h0 : q.1 = 0
      · exact ⟨_, hi k q hq h0, fun _ => ⟨_, rfl, q_ivV ho k q hq h0⟩, fun h8 => by rw [h0] at h8; cases h8⟩
      · by_cases h11 : q.1 = 1
        · have hk := (List.getElem?_eq_some_iff.mp hq).1
          have hd' := List.all_eq_true.mp hd k (List.mem_range.mpr hk)
          rw [hq] at hd'
          have hm : k ∈ dn := by
            simp [h11] at hd'
            exact hd'
          obtain ⟨r, r1, r2, r3⟩ := (h6 k q hq).2 h11 hm
          have hl := q_lo1 ho q (List.mem_of_getElem? hq) h11
          have hr : va_up T a t r = T r := hT r (by omega)
          exact ⟨_, r1, fun h8 => absurd h8 h0, fun _ => ⟨r, rfl, by show q.2.1 ≤ ((va_up T a t r : Nat) : Int); rw [hr]; exact r2, by show ((va_up T a t r : Nat) : Int) ≤ q.2.2; rw [hr]; exact r3⟩⟩
        · have hk : k < vs.length := by rw [h5]; exact (List.getElem?_eq_some_iff.mp hq).1
          exact ⟨vs[k], List.getElem?_eq_getElem hk, fun h8 => absurd h8 h0, fun h8 => absurd h8 h11⟩
    · rw [(q_sI_O ho).1] at h9; cases h9
    · rw [(q_sI_O ho).2] at h9; cases h9
  · rw [h4]
    refine ⟨fun o2 k lo hi' h8 h9 => ?_, fun o2 i h8 => ?_⟩
    · cases ho.symm.trans h8
      show q_vI vs[k]? = _
      rw [hi k _ h9 rfl]; rfl
    · rw [(q_sI_O ho).1] at h8; cases h8
theorem q_Pr.tell {H H0 : Heap} {locs : List Loc} (hW : q_Wc G H0 L T σ H locs) (h : q_Pr G L T σ a t m) {o : Nat × Nat × Nat × Nat} (ho : q_sR t = some o) (hm : m = o.2.1) : q_Wc G H0 L (va_up T a t) σ H locs ∧ q_Gw L T σ L (va_up T a t) σ a ∧ va_up T a t a = t := by
  obtain ⟨g1, g2, o', f, h3, h4, h5⟩ := h
  cases ho.symm.trans h3
  subst hm
  have hT : ∀ b, T b ≠ 0 → va_up T a t b = T b := fun b hb => va_up_ne _ _ (fun e => hb (e ▸ g2))
  refine q_tell hW g1 g2 ?_ ?_
  · rw [h4]
    refine ⟨fun o2 h9 => ?_, fun o2 h9 => ?_, fun o2 h9 => ?_⟩
    · rw [(q_sR_O ho).1] at h9; cases h9
    · rw [(q_sR_O ho).2] at h9; cases h9
    · cases ho.symm.trans h9
      refine ⟨f, rfl, fun i hi => ?_⟩
      obtain ⟨r, r1, r2, r3⟩ := h5 i hi
      have hl := q_lo2 ho
      have hr : va_up T a t r = T r := hT r (by omega)
      exact ⟨r, r1, by show o.2.2.1 ≤ va_up T a t r; rw [hr]; exact r2, by show va_up T a t r ≤ o.2.2.2; rw [hr]; exact r3⟩
  · rw [h4]
    refine ⟨fun o2 k lo hi' h8 => ?_, fun o2 i h8 => ?_⟩
    · rw [(q_sR_O ho).1] at h8; cases h8
    · rw [(q_sR_O ho).2] at h8; cases h8
end QG
