/-! a world as it is at first: fields and rows that hold what they held -/
/-- F: fields (tag, place) as they are at first; A: (tag, from, to): nothing but 0 there -/
def q_fr (G : q_G) (F : List (Nat × Nat)) (A : List (Nat × Nat × Nat)) (σ : q_S) : Prop :=
  (∀ x ∈ F, ∀ a, q_T G a = x.1 → q_I σ a x.2 = q_iv x.1 x.2) ∧ (∀ y ∈ A, ∀ a, q_T G a = y.1 → ∀ i : Nat, y.2.1 ≤ i → i < y.2.2 → q_A σ a i = 0)
section QF
variable {G : q_G} {F F2 : List (Nat × Nat)} {A A2 : List (Nat × Nat × Nat)} {σ σ1 : q_S} {a b t k r : Nat} {x : Int32}
theorem q_fr.f (h : q_fr G F A σ) {t k : Nat} (hm : (t, k) ∈ F) (ht : q_T G a = t) : q_I σ a k = q_iv t k := h.1 _ hm a ht
theorem q_fr.z (h : q_fr G F A σ) {t l u : Nat} (hm : (t, l, u) ∈ A) (ht : q_T G a = t) {i : Int32} {lo hi : Int} (hv : q_V lo hi i) (h0 : 0 ≤ lo) (h1 : (l : Int) ≤ lo) (h2 : hi < (u : Int)) : q_A σ a i.toNatClampNeg = 0 := by
  have e1 := q_cl hv h0
  have e2 := hv.1
  have e3 := hv.2
  exact h.2 _ hm a ht _ (show l ≤ i.toNatClampNeg by omega) (show i.toNatClampNeg < u by omega)
theorem q_fr.sub (h : q_fr G F A σ) (h1 : ∀ x ∈ F2, x ∈ F) (h2 : ∀ t ∈ A2, t ∈ A) : q_fr G F2 A2 σ := ⟨fun x hx => h.1 x (h1 x hx), fun t ht => h.2 t (h2 t ht)⟩
theorem q_fr.and (h : q_fr G F A σ) (g : q_fr G F2 A2 σ) : q_fr G (F ++ F2) (A ++ A2) σ := ⟨fun x hx => (List.mem_append.mp hx).elim (h.1 x) (g.1 x), fun t ht => (List.mem_append.mp ht).elim (h.2 t) (g.2 t)⟩
theorem q_fr.wI (h : q_fr G F A σ) (p : q_pI σ σ1 a k x) (ht : q_T G a = t) (hx : (t, k) ∉ F ∨ x = q_iv t k) : q_fr G F A σ1 := by
  refine ⟨fun y hy b hb => ?_, fun y hy b hb i h1 h2 => by rw [p.2.2.2.1 b i]; exact h.2 y hy b hb i h1 h2⟩
  by_cases e : b = a ∧ y.2 = k
  · obtain ⟨rfl, rfl⟩ := e
    have e2 : y.1 = t := hb.symm.trans ht
    subst e2
    rcases hx with hx | hx
    · exact absurd hy hx
    · exact p.1.trans hx
  · rw [p.2.1 b y.2 (Classical.byContradiction fun q => e ⟨Classical.byContradiction fun z => q (Or.inl z), Classical.byContradiction fun z => q (Or.inr z)⟩)]
    exact h.1 y hy b hb
theorem q_fr.wR (h : q_fr G F A σ) (p : q_pR σ σ1 a k r) : q_fr G F A σ1 := ⟨fun y hy b hb => (p.2.2.1 b y.2).trans (h.1 y hy b hb), fun y hy b hb i h1 h2 => by rw [p.2.2.2.1 b i]; exact h.2 y hy b hb i h1 h2⟩
theorem q_fr.wQ (h : q_fr G F A σ) (p : q_pQ σ σ1 a k r) : q_fr G F A σ1 := ⟨fun y hy b hb => (p.2.2.2.1 b y.2).trans (h.1 y hy b hb), fun y hy b hb i h1 h2 => by rw [p.2.2.2.2 b i]; exact h.2 y hy b hb i h1 h2⟩
theorem q_fr.wA (h : q_fr G F A σ) (p : q_pA σ σ1 a k x) (ht : q_T G a = t) (hx : ∀ y ∈ A, y.1 = t → y.2.1 ≤ k → k < y.2.2 → x = 0) : q_fr G F A σ1 := by
  refine ⟨fun y hy b hb => (p.2.2.2.1 b y.2).trans (h.1 y hy b hb), fun y hy b hb i h1 h2 => ?_⟩
  by_cases e : b = a ∧ i = k
  · obtain ⟨rfl, rfl⟩ := e
    rw [p.1]
    exact hx y hy (hb.symm.trans ht) h1 h2
  · rw [p.2.1 b i (Classical.byContradiction fun q => e ⟨Classical.byContradiction fun z => q (Or.inl z), Classical.byContradiction fun z => q (Or.inr z)⟩)]
    exact h.2 y hy b hb i h1 h2
theorem q_fr.wA0 (h : q_fr G F A σ) (p : q_pA σ σ1 a k x) (ht : q_T G a = t) (hx : x = 0) : q_fr G F A σ1 := h.wA p ht (fun _ _ _ _ _ => hx)
theorem q_fr.wAi (h : q_fr G F A σ) {i : Int32} (p : q_pA σ σ1 a i.toNatClampNeg x) (ht : q_T G a = t) {lo hi : Int} (hv : q_V lo hi i) (h0 : 0 ≤ lo) (hx : ∀ y ∈ A, y.1 = t → hi < (y.2.1 : Int) ∨ (y.2.2 : Int) ≤ lo) : q_fr G F A σ1 := by
  have e1 := q_cl hv h0
  have e2 := hv.1
  have e3 := hv.2
  exact h.wA p ht (fun y hy hyt h1 h2 => by rcases hx y hy hyt with q | q <;> omega)
theorem q_fr.wAc (h : q_fr G F A σ) (p : q_pA σ σ1 a k x) (ht : q_T G a = t) (hb : q_T G b = t) (hx : q_A σ b k = x) : q_fr G F A σ1 := h.wA p ht (fun y hy hyt h1 h2 => hx.symm.trans (h.2 y hy b (hb.trans hyt.symm) k h1 h2))
theorem q_fr.wC (h : q_fr G F A σ) {a0 : Nat} {sp dp n : Int32} (p : q_pC σ σ1 a a0 sp dp n) (ht : q_T G a = t) (hx : (∀ y ∈ A, y.1 ≠ t) ∨ (q_T G a0 = t ∧ sp = 0 ∧ dp = 0)) : q_fr G F A σ1 := by
  refine ⟨fun y hy b hb => (p.2.2.2.1 b y.2).trans (h.1 y hy b hb), fun y hy b hb i h1 h2 => ?_⟩
  by_cases e : b = a
  · subst e
    have e2 : y.1 = t := hb.symm.trans ht
    rcases hx with hx | ⟨h0, rfl, rfl⟩
    · exact absurd e2 (hx y hy)
    · rw [p.1 i]
      unfold va_cpy
      split
      · have e3 : (0 : Int32).toNatClampNeg + (i - (0 : Int32).toNatClampNeg) = i := by show 0 + (i - 0) = i; omega
        rw [e3]
        exact h.2 y hy _ (h0.trans e2.symm) i h1 h2
      · exact h.2 y hy _ hb i h1 h2
  · rw [p.2.1 b i (Or.inl e)]
    exact h.2 y hy b hb i h1 h2
theorem q_fr.fr (h : q_fr G F A σ) {ts : List Nat} (f : q_Fr G ts σ σ1) (h1 : ∀ x ∈ F, x.1 ∉ ts) (h2 : ∀ y ∈ A, y.1 ∉ ts) : q_fr G F A σ1 := by
  refine ⟨fun y hy b hb => ?_, fun y hy b hb i g1 g2 => ?_⟩
  · rw [f.I y.2 hb (h1 y hy)]; exact h.1 y hy b hb
  · rw [f.A i hb (h2 y hy)]; exact h.2 y hy b hb i g1 g2
end QF
theorem q_in0 {r : Int32} {x a b : Int64} (h : q_V 0 1 r) (h2 : r ≠ 0 → a ≤ x ∧ x ≤ b) (hab : b < a) : 0 = r := Classical.byContradiction fun q => absurd hab (Int64.not_lt.mpr (Int64.le_trans (h2 (fun e => q e.symm)).1 (h2 (fun e => q e.symm)).2))
theorem q_ixR {j i : Int32} {lo hi : Int} (hv : q_V lo hi i) (h0 : 0 ≤ lo) (hj : 0 ≤ j.toInt) (h : j.toInt < lo ∨ hi < j.toInt) : j.toNatClampNeg ≠ i.toNatClampNeg := fun e => by
  have e1 := q_cl hv h0
  have e2 : (j.toNatClampNeg : Int) = j.toInt := q_cl (a := 0) (b := j.toInt) ⟨hj, Int.le_refl _⟩ (by decide)
  have e3 := hv.1
  have e4 := hv.2
  rcases h with h | h <;> omega
theorem q_cpy53 {k : Int32} {x : Int} (hv : q_V 0 100 k) (h : q_eP 46 k.toNatClampNeg x) : q_eP 53 k.toNatClampNeg x := by
  have e1 := q_cl hv (by decide)
  have e2 := hv.2
  have e3 : k.toNatClampNeg % 101 = k.toNatClampNeg := Nat.mod_eq_of_lt (by omega)
  intro a b
  exact h (by rw [← e3]; exact a) (by rw [← e3]; exact b)
theorem q_cpy54 {k : Int32} {x : Int} (hv : q_V 0 100 k) (h : q_eP 46 k.toNatClampNeg x) : q_eP 54 k.toNatClampNeg x := q_cpy53 hv h
/-- a world that was made just now is as at first -/
theorem q_fr_of {G : q_G} {L : List Nat} {T : Nat → Nat} {σ : q_S} {F : List (Nat × Nat)} {A : List (Nat × Nat × Nat)} (h : ∀ a, T a ≠ 0 → q_Z (T a) (σ a)) (hF : F.all (fun x => match q_sO x.1 with | some o => (match o.2[x.2]? with | some q => q.1 == 0 | none => false) | none => false) = true) (hA : A.all (fun y => match q_sI y.1 with | some o => decide (y.2.2 ≤ o.2) && decide (y.1 ≠ 10) && (decide (y.1 ≠ 46) || decide (y.2.2 ≤ 54) || decide (57 ≤ y.2.1)) | none => false) = true) : q_fr (q_Gx G L T) F A σ := by
  refine ⟨fun x hx a ha => ?_, fun y hy a ha i h1 h2 => ?_⟩
  · have hb := List.all_eq_true.mp hF x hx
    have ha : T a = x.1 := ha
    cases ho : q_sO x.1 with
    | none => rw [ho] at hb; cases hb
    | some o =>
      rw [ho] at hb
      have hb : (match o.2[x.2]? with | some q => q.1 == 0 | none => false) = true := hb
      cases hq : o.2[x.2]? with
      | none => rw [hq] at hb; cases hb
      | some q =>
        rw [hq] at hb
        obtain ⟨q1, lo, hi⟩ := q
        have e : q1 = 0 := by simpa using hb
        subst e
        have h0 : T a ≠ 0 := fun e => by rw [ha] at e; rw [e] at ho; cases ho
        have hz := h a h0
        rw [ha] at hz
        exact hz.1 o x.2 lo hi ho hq
  · have hb := List.all_eq_true.mp hA y hy
    have ha : T a = y.1 := ha
    cases ho : q_sI y.1 with
    | none => rw [ho] at hb; cases hb
    | some o =>
      rw [ho] at hb
      have hb : (decide (y.2.2 ≤ o.2) && decide (y.1 ≠ 10) && (decide (y.1 ≠ 46) || decide (y.2.2 ≤ 54) || decide (57 ≤ y.2.1))) = true := hb
      have h0 : T a ≠ 0 := fun e => by rw [ha] at e; rw [e] at ho; cases ho
      have hz := h a h0
      rw [ha] at hz
      have hb' : (y.2.2 ≤ o.2 ∧ y.1 ≠ 10) ∧ ((y.1 ≠ 46 ∨ y.2.2 ≤ 54) ∨ 57 ≤ y.2.1) := by simpa [Bool.and_eq_true, Bool.or_eq_true] using hb
      rcases hz.2 o i ho (by omega) with e | e | e
      · exact absurd e hb'.1.2
      · omega
      · exact e
theorem q_eqv {k : Int} {x y : Int32} (h1 : q_V k k x) (h2 : q_V k k y) : x = y := Int32.toInt_inj.mp (by have := h1.1; have := h1.2; have := h2.1; have := h2.2; omega)
