/-! numbers: an int lies between -/
def q_V (lo hi : Int) (x : Int32) : Prop := lo ≤ x.toInt ∧ x.toInt ≤ hi
theorem q_all (x : Int32) : q_V (-2147483648) 2147483647 x := ⟨Int32.le_toInt x, Int32.toInt_le x⟩
theorem q_V.w {a b c d : Int} {x : Int32} (h : q_V a b x) (h1 : c ≤ a) (h2 : b ≤ d) : q_V c d x := ⟨Int.le_trans h1 h.1, Int.le_trans h.2 h2⟩
theorem q_V.no {a b : Int} {x : Int32} {P : Prop} (h : q_V a b x) (hb : b < a) : P := absurd (Int.le_trans h.1 h.2) (Int.not_le.mpr hb)
theorem q_bm (z : Int) (h1 : -2147483648 ≤ z) (h2 : z ≤ 2147483647) : z.bmod (2 ^ 32) = z := by
  rw [Int.bmod_eq_of_le] <;> omega
theorem q_addT {a b c d : Int} {x y : Int32} (hx : q_V a b x) (hy : q_V c d y) (h1 : -2147483648 ≤ a + c) (h2 : b + d ≤ 2147483647) : (x + y).toInt = x.toInt + y.toInt := by
  obtain ⟨x1, x2⟩ := hx; obtain ⟨y1, y2⟩ := hy
  rw [Int32.toInt_add]; exact q_bm _ (by omega) (by omega)
theorem q_add {a b c d : Int} {x y : Int32} (hx : q_V a b x) (hy : q_V c d y) (h1 : -2147483648 ≤ a + c) (h2 : b + d ≤ 2147483647) : q_V (a + c) (b + d) (x + y) := by
  have e := q_addT hx hy h1 h2
  obtain ⟨x1, x2⟩ := hx; obtain ⟨y1, y2⟩ := hy
  exact ⟨by rw [e]; omega, by rw [e]; omega⟩
theorem q_subT {a b c d : Int} {x y : Int32} (hx : q_V a b x) (hy : q_V c d y) (h1 : -2147483648 ≤ a - d) (h2 : b - c ≤ 2147483647) : (x - y).toInt = x.toInt - y.toInt := by
  obtain ⟨x1, x2⟩ := hx; obtain ⟨y1, y2⟩ := hy
  rw [Int32.toInt_sub]; exact q_bm _ (by omega) (by omega)
theorem q_sub {a b c d : Int} {x y : Int32} (hx : q_V a b x) (hy : q_V c d y) (h1 : -2147483648 ≤ a - d) (h2 : b - c ≤ 2147483647) : q_V (a - d) (b - c) (x - y) := by
  have e := q_subT hx hy h1 h2
  obtain ⟨x1, x2⟩ := hx; obtain ⟨y1, y2⟩ := hy
  exact ⟨by rw [e]; omega, by rw [e]; omega⟩
theorem q_mulT {k a b : Int} {x y : Int32} (hx : x.toInt = k) (hy : q_V a b y) (hk : 0 ≤ k) (h1 : -2147483648 ≤ k * a) (h2 : k * b ≤ 2147483647) : (x * y).toInt = k * y.toInt := by
  obtain ⟨y1, y2⟩ := hy
  have m1 := Int.mul_le_mul_of_nonneg_left y1 hk
  have m2 := Int.mul_le_mul_of_nonneg_left y2 hk
  rw [Int32.toInt_mul, hx]; exact q_bm _ (by omega) (by omega)
theorem q_mul {k a b : Int} {x y : Int32} (hx : x.toInt = k) (hy : q_V a b y) (hk : 0 ≤ k) (h1 : -2147483648 ≤ k * a) (h2 : k * b ≤ 2147483647) : q_V (k * a) (k * b) (x * y) := by
  have e := q_mulT hx hy hk h1 h2
  exact ⟨by rw [e]; exact Int.mul_le_mul_of_nonneg_left hy.1 hk, by rw [e]; exact Int.mul_le_mul_of_nonneg_left hy.2 hk⟩
theorem q_c {k : Int} {x : Int32} (h : x.toInt = k) : q_V k k x := ⟨Int.le_of_eq h.symm, Int.le_of_eq h⟩
theorem q_lt1 {a b c d : Int} {x y : Int32} (hx : q_V a b x) (hy : q_V c d y) (h : x < y) : q_V a (d - 1) x := by
  have := Int32.lt_iff_toInt_lt.mp h
  exact ⟨hx.1, by have := hy.2; omega⟩
theorem q_lt2 {a b c d : Int} {x y : Int32} (hx : q_V a b x) (hy : q_V c d y) (h : x < y) : q_V (a + 1) d y := by
  have := Int32.lt_iff_toInt_lt.mp h
  exact ⟨by have := hx.1; omega, hy.2⟩
theorem q_le1 {a b c d : Int} {x y : Int32} (hx : q_V a b x) (hy : q_V c d y) (h : x ≤ y) : q_V a d x := by
  have := Int32.le_iff_toInt_le.mp h
  exact ⟨hx.1, by have := hy.2; omega⟩
theorem q_le2 {a b c d : Int} {x y : Int32} (hx : q_V a b x) (hy : q_V c d y) (h : x ≤ y) : q_V a d y := by
  have := Int32.le_iff_toInt_le.mp h
  exact ⟨by have := hx.1; omega, hy.2⟩
theorem q_in {a b : Int} {x : Int32} {n : Nat} (h : q_V a b x) (h0 : 0 ≤ a) (h1 : b < (n : Int)) : vp_in x n := vp_in_iff.mpr ⟨Int.le_trans h0 h.1, Int.lt_of_le_of_lt h.2 h1⟩
theorem q_cl {a b : Int} {x : Int32} (h : q_V a b x) (h0 : 0 ≤ a) : (x.toNatClampNeg : Int) = x.toInt := by
  have h1 : 0 ≤ x.toInt := Int.le_trans h0 h.1
  show ((x.toInt.toNat : Nat) : Int) = x.toInt
  omega
/-! the tags of the cells: what each is -/
def q_sO : Nat → Option (Nat × List (Nat × Int × Int))
  | 1 => some (9, [])
  | 2 => some (8, [])
  | 3 => some (3, [])
  | 4 => some (0, [])
  | 5 => some (1, [(1, 1, 4), (0, -2147483648, 2147483647), (0, -2147483648, 2147483647), (0, -2147483648, 2147483647), (0, -2147483648, 2147483647), (1, 6, 6)])
  | 7 => some (2, [(1, 8, 8), (0, 0, 6), (1, 9, 9), (1, 10, 10), (0, 0, 3), (1, 11, 11), (0, -2147483648, 2147483647), (0, -2147483648, 2147483647), (0, -2147483648, 2147483647)])
  | 13 => some (7, [(1, 14, 14), (0, -2147483648, 2147483647)])
  | 15 => some (6, [(1, 13, 13), (1, 7, 7), (1, 27, 27), (0, -2147483648, 2147483647), (0, -2147483648, 2147483647), (0, -2147483648, 2147483647)])
  | 16 => some (5, [(1, 7, 7), (1, 17, 17), (1, 18, 18), (1, 19, 19), (1, 20, 20), (1, 21, 21), (0, -2147483648, 2147483647)])
  | 23 => some (4, [(0, 0, 1), (0, -2147483648, 2147483647), (0, 0, 16), (1, 24, 24), (1, 25, 25)])
  | 26 => some (10, [(1, 27, 27), (1, 13, 13), (1, 15, 15), (1, 7, 7), (1, 7, 7), (1, 7, 7), (1, 7, 7), (1, 16, 16), (1, 28, 28), (1, 29, 29), (0, -2147483648, 2147483647), (1, 30, 30), (1, 31, 31), (1, 32, 32), (1, 33, 33), (1, 34, 34), (1, 35, 35), (0, -2147483648, 2147483647), (1, 36, 36), (1, 23, 23)])
  | 40 => some (11, [(0, 0, 6), (1, 41, 41), (1, 42, 42), (1, 43, 43), (1, 44, 44), (0, 0, 3), (1, 45, 45), (0, -2147483648, 2147483647), (0, -2147483648, 2147483647), (1, 46, 46), (1, 47, 47), (0, 0, 200), (0, 0, 200), (0, 0, 3), (0, 0, 200), (0, 0, 201), (0, -2147483648, 2147483647), (0, 0, 6), (1, 48, 48), (1, 49, 49), (1, 50, 50), (1, 51, 51), (0, 0, 3), (1, 52, 52), (0, -2147483648, 2147483647), (0, -2147483648, 2147483647), (0, 0, 20), (0, 0, 8), (1, 53, 53), (1, 54, 54), (1, 55, 55), (1, 56, 56), (1, 46, 46), (1, 58, 58), (1, 59, 59), (0, 0, 6), (1, 60, 60), (1, 61, 61), (1, 62, 62), (1, 63, 63), (1, 64, 64), (1, 65, 65), (1, 66, 66), (1, 67, 67)])
  | _ => none
/-- arrays of numbers: which class, how long -/
def q_sI : Nat → Option (Nat × Nat)
  | 6 => some (0, 6) | 9 => some (0, 3) | 10 => some (0, 3) | 12 => some (0, 6) | 14 => some (2, 200) | 17 => some (0, 6) | 18 => some (0, 3) | 19 => some (0, 6) | 20 => some (0, 6) | 22 => some (0, 6)
  | 24 => some (0, 16) | 25 => some (0, 16) | 28 => some (0, 7) | 32 => some (1, 2) | 33 => some (0, 6) | 34 => some (0, 6) | 35 => some (0, 6)
  | 41 => some (0, 6) | 42 => some (0, 6) | 43 => some (0, 6) | 44 => some (0, 36) | 45 => some (0, 3) | 46 => some (0, 101) | 47 => some (0, 200) | 48 => some (0, 6) | 49 => some (0, 6) | 50 => some (0, 6)
  | 51 => some (0, 36) | 52 => some (0, 3) | 53 => some (0, 808) | 54 => some (0, 202) | 55 => some (1, 2) | 56 => some (0, 6) | 57 => some (0, 101) | 58 => some (0, 7) | 59 => some (0, 18)
  | 60 => some (0, 6) | 61 => some (0, 6) | 62 => some (0, 6) | 63 => some (1, 3) | 64 => some (0, 3) | 65 => some (0, 3) | 66 => some (0, 48) | 67 => some (0, 16)
  | _ => none
/-- what an element of such an array is -/
def q_eP (t i : Nat) (x : Int) : Prop := match t with
  | 14 => 0 ≤ x ∧ x ≤ 65535
  | 32 => 0 ≤ x ∧ x ≤ 1
  | 46 => 54 ≤ i → i ≤ 56 → -1 ≤ x ∧ x ≤ 5
  | 53 => 54 ≤ i % 101 → i % 101 ≤ 56 → -1 ≤ x ∧ x ≤ 5
  | 54 => 54 ≤ i % 101 → i % 101 ≤ 56 → -1 ≤ x ∧ x ≤ 5
  | 55 => 0 ≤ x ∧ x ≤ 1
  | 57 => 54 ≤ i → i ≤ 56 → -1 ≤ x ∧ x ≤ 5
  | 63 => 0 ≤ x ∧ x ≤ 1
  | 65 => 0 ≤ x ∧ x ≤ 16
  | 66 => 0 ≤ x ∧ (x ≤ 6 ∨ 1000 ≤ x)
  | 67 => 0 ≤ x ∧ (x ≤ 6 ∨ 1000 ≤ x)
  | _ => True
/-- arrays of cells: which class, how long, the tags of what they hold -/
def q_sR : Nat → Option (Nat × Nat × Nat × Nat)
  | 8 => some (3, 6, 5, 5) | 11 => some (8, 7, 12, 12) | 21 => some (8, 3, 22, 22) | 27 => some (5, 4, 1, 4) | 29 => some (4, 8, 7, 7) | 30 => some (4, 2, 7, 7) | 31 => some (7, 2, 13, 13) | 36 => some (6, 3, 23, 23)
  | _ => none
abbrev q_G : Type := va_G × (Nat → ClassId) × Nat × List Nat × (Nat → Nat) × (Nat → Nat) × (Nat → Nat)
abbrev q_S : Type := Nat → va_E
def q_tys (c : Nat → ClassId) : List (ClassId × FieldType) := [(c 0, .int), (c 1, .boolean), (c 2, .char), (c 3, .object "CloudLaundry$Cloud"), (c 4, .object "CloudLaundry$Day"), (c 5, .object "CloudLaundry$Kind"), (c 6, .object "CloudLaundry$Line"), (c 7, .object "CloudLaundry$Text"), (c 8, .array .int)]
def q_D (G : q_G) : va_G := G.1
def q_C (G : q_G) : Nat → ClassId := G.2.1
def q_B (G : q_G) : Nat := G.2.2.1
def q_L (G : q_G) : List Nat := G.2.2.2.1
def q_T (G : q_G) : Nat → Nat := G.2.2.2.2.1
def q_aK (G : q_G) : Nat → Nat := G.2.2.2.2.2.1
def q_aV (G : q_G) : Nat → Nat := G.2.2.2.2.2.2
def q_N (G : q_G) : Nat → Prop := fun q => q_B G ≤ q
/-- what a field holds -/
def q_okV (G : q_G) (q : Nat × Int × Int) (v : Value) : Prop := (q.1 = 0 → ∃ x : Int32, v = .int x ∧ q_V q.2.1 q.2.2 x) ∧ (q.1 = 1 → ∃ r : Nat, v = .ref r ∧ q.2.1 ≤ (q_T G r : Int) ∧ (q_T G r : Int) ≤ q.2.2)
def q_ok (G : q_G) (t : Nat) (e : va_E) : Prop :=
  (∀ o, q_sO t = some o → ∃ vs : List Value, e = .inr (o.1, vs) ∧ vs.length = o.2.length ∧ ∀ (k : Nat) q, o.2[k]? = some q → ∃ v, vs[k]? = some v ∧ q_okV G q v) ∧
  (∀ o, q_sI t = some o → ∃ f : Nat → Int32, e = .inl (q_C G o.1, o.2, .inl f) ∧ ∀ i : Nat, i < o.2 → q_eP t i (f i).toInt) ∧
  (∀ o, q_sR t = some o → ∃ f : Nat → Option Nat, e = .inl (q_C G o.1, o.2.1, .inr (.inr (.inr (.inr f)))) ∧ ∀ i : Nat, i < o.2.1 → ∃ r, f i = some r ∧ o.2.2.1 ≤ q_T G r ∧ q_T G r ≤ o.2.2.2)
/-- the world: the cells of the pool, each as its tag says -/
def q_Ow (G : q_G) (σ : q_S) (H : Heap) : Prop := va_P (q_D G) vwCl (va_pl (q_L G) σ) H ∧ va_D (q_N G) (va_pl (q_L G) σ) ∧ ∀ a, q_T G a ≠ 0 → a ∈ q_L G ∧ q_ok G (q_T G a) (σ a)
/-- the cells of other tags stay -/
def q_Fr (G : q_G) (ts : List Nat) (σ0 σ : q_S) : Prop := ∀ a, q_T G a ∉ ts → σ a = σ0 a
theorem q_Fr.rf {G : q_G} {ts : List Nat} {σ : q_S} : q_Fr G ts σ σ := fun _ _ => rfl
theorem q_Fr.tr {G : q_G} {t1 t2 ts : List Nat} {σ0 σ1 σ2 : q_S} (h1 : q_Fr G t1 σ0 σ1) (h2 : q_Fr G t2 σ1 σ2) (i1 : ∀ t ∈ t1, t ∈ ts) (i2 : ∀ t ∈ t2, t ∈ ts) : q_Fr G ts σ0 σ2 := fun a ha => (h2 a (fun q => ha (i2 _ q))).trans (h1 a (fun q => ha (i1 _ q)))
theorem q_Fr.up {G : q_G} {ts : List Nat} {σ0 σ : q_S} {a : Nat} {e : va_E} (h : q_Fr G ts σ0 σ) (ha : q_T G a ∈ ts) : q_Fr G ts σ0 (va_up σ a e) := fun b hb => by
  have hne : b ≠ a := fun q => hb (q ▸ ha)
  rw [va_up_ne _ _ hne]; exact h b hb
/-! what is read -/
def q_vI (v : Option Value) : Int32 := match v with | some (.int x) => x | _ => 0
def q_vR (v : Option Value) : Nat := match v with | some (.ref r) => r | _ => 0
def q_I (σ : q_S) (a k : Nat) : Int32 := match σ a with | .inr o => q_vI o.2[k]? | .inl _ => 0
def q_R (σ : q_S) (a k : Nat) : Nat := match σ a with | .inr o => q_vR o.2[k]? | .inl _ => 0
def q_A (σ : q_S) (a i : Nat) : Int32 := match σ a with | .inl (_, _, .inl f) => f i | _ => 0
def q_Q (σ : q_S) (a i : Nat) : Nat := match σ a with | .inl (_, _, .inr (.inr (.inr (.inr f)))) => (f i).getD 0 | _ => 0
theorem q_Fr.I {G : q_G} {ts : List Nat} {σ0 σ : q_S} (h : q_Fr G ts σ0 σ) {a : Nat} (k : Nat) {t : Nat} (ht : q_T G a = t) (hn : t ∉ ts) : q_I σ a k = q_I σ0 a k := by unfold q_I; rw [h a (by rw [ht]; exact hn)]
theorem q_Fr.R {G : q_G} {ts : List Nat} {σ0 σ : q_S} (h : q_Fr G ts σ0 σ) {a : Nat} (k : Nat) {t : Nat} (ht : q_T G a = t) (hn : t ∉ ts) : q_R σ a k = q_R σ0 a k := by unfold q_R; rw [h a (by rw [ht]; exact hn)]
theorem q_Fr.A {G : q_G} {ts : List Nat} {σ0 σ : q_S} (h : q_Fr G ts σ0 σ) {a : Nat} (k : Nat) {t : Nat} (ht : q_T G a = t) (hn : t ∉ ts) : q_A σ a k = q_A σ0 a k := by unfold q_A; rw [h a (by rw [ht]; exact hn)]
theorem q_Fr.Q {G : q_G} {ts : List Nat} {σ0 σ : q_S} (h : q_Fr G ts σ0 σ) {a : Nat} (k : Nat) {t : Nat} (ht : q_T G a = t) (hn : t ∉ ts) : q_Q σ a k = q_Q σ0 a k := by unfold q_Q; rw [h a (by rw [ht]; exact hn)]
/-- one int field is another: all else stays -/
def q_pI (σ σ1 : q_S) (a k : Nat) (x : Int32) : Prop := q_I σ1 a k = x ∧ (∀ b j, b ≠ a ∨ j ≠ k → q_I σ1 b j = q_I σ b j) ∧ (∀ b j, q_R σ1 b j = q_R σ b j) ∧ (∀ b j, q_A σ1 b j = q_A σ b j) ∧ (∀ b j, q_Q σ1 b j = q_Q σ b j)
def q_pR (σ σ1 : q_S) (a k : Nat) (r : Nat) : Prop := q_R σ1 a k = r ∧ (∀ b j, b ≠ a ∨ j ≠ k → q_R σ1 b j = q_R σ b j) ∧ (∀ b j, q_I σ1 b j = q_I σ b j) ∧ (∀ b j, q_A σ1 b j = q_A σ b j) ∧ (∀ b j, q_Q σ1 b j = q_Q σ b j)
def q_pA (σ σ1 : q_S) (a k : Nat) (x : Int32) : Prop := q_A σ1 a k = x ∧ (∀ b j, b ≠ a ∨ j ≠ k → q_A σ1 b j = q_A σ b j) ∧ (∀ b j, q_R σ1 b j = q_R σ b j) ∧ (∀ b j, q_I σ1 b j = q_I σ b j) ∧ (∀ b j, q_Q σ1 b j = q_Q σ b j)
def q_pQ (σ σ1 : q_S) (a k : Nat) (r : Nat) : Prop := q_Q σ1 a k = r ∧ (∀ b j, b ≠ a ∨ j ≠ k → q_Q σ1 b j = q_Q σ b j) ∧ (∀ b j, q_R σ1 b j = q_R σ b j) ∧ (∀ b j, q_I σ1 b j = q_I σ b j) ∧ (∀ b j, q_A σ1 b j = q_A σ b j)
theorem q_pI.of {σ : q_S} {a k ci : Nat} {vs : List Value} {x y : Int32} (h : σ a = .inr (ci, vs)) (hk : vs[k]? = some (.int y)) : q_pI σ (va_up σ a (.inr (ci, vs.set k (.int x)))) a k x := by
  have hl := (List.getElem?_eq_some_iff.mp hk).1
  refine ⟨?_, fun b j hb => ?_, fun b j => ?_, fun b j => ?_, fun b j => ?_⟩
  · simp [q_I, va_up_self, List.getElem?_set_self hl, q_vI]
  · by_cases e : b = a
    · subst e
      have hj : j ≠ k := hb.elim (fun q => absurd rfl q) id
      simp only [q_I, va_up_self, h]
      rw [List.getElem?_set_ne (Ne.symm hj)]
    · simp only [q_I, va_up_ne _ _ e]
  · by_cases e : b = a
    · subst e
      simp only [q_R, va_up_self, h]
      by_cases hj : j = k
      · subst hj; rw [List.getElem?_set_self hl, hk]; rfl
      · rw [List.getElem?_set_ne (Ne.symm hj)]
    · simp only [q_R, va_up_ne _ _ e]
  · by_cases e : b = a
    · subst e; simp only [q_A, va_up_self, h]
    · simp only [q_A, va_up_ne _ _ e]
  · by_cases e : b = a
    · subst e; simp only [q_Q, va_up_self, h]
    · simp only [q_Q, va_up_ne _ _ e]
theorem q_pR.of {σ : q_S} {a k ci : Nat} {vs : List Value} {r r0 : Nat} (h : σ a = .inr (ci, vs)) (hk : vs[k]? = some (.ref r0)) : q_pR σ (va_up σ a (.inr (ci, vs.set k (.ref r)))) a k r := by
  have hl := (List.getElem?_eq_some_iff.mp hk).1
  refine ⟨?_, fun b j hb => ?_, fun b j => ?_, fun b j => ?_, fun b j => ?_⟩
  · simp [q_R, va_up_self, List.getElem?_set_self hl, q_vR]
  · by_cases e : b = a
    · subst e
      have hj : j ≠ k := hb.elim (fun q => absurd rfl q) id
      simp only [q_R, va_up_self, h]
      rw [List.getElem?_set_ne (Ne.symm hj)]
    · simp only [q_R, va_up_ne _ _ e]
  · by_cases e : b = a
    · subst e
      simp only [q_I, va_up_self, h]
      by_cases hj : j = k
      · subst hj; rw [List.getElem?_set_self hl, hk]; rfl
      · rw [List.getElem?_set_ne (Ne.symm hj)]
    · simp only [q_I, va_up_ne _ _ e]
  · by_cases e : b = a
    · subst e; simp only [q_A, va_up_self, h]
    · simp only [q_A, va_up_ne _ _ e]
  · by_cases e : b = a
    · subst e; simp only [q_Q, va_up_self, h]
    · simp only [q_Q, va_up_ne _ _ e]
theorem q_pA.of {σ : q_S} {a k n : Nat} {cA : ClassId} {f : Nat → Int32} {x : Int32} (h : σ a = .inl (cA, n, .inl f)) : q_pA σ (va_up σ a (.inl (cA, n, .inl (upd f k x)))) a k x := by
  refine ⟨?_, fun b j hb => ?_, fun b j => ?_, fun b j => ?_, fun b j => ?_⟩
  · simp [q_A, va_up_self, upd]
  · by_cases e : b = a
    · subst e
      have hj : j ≠ k := hb.elim (fun q => absurd rfl q) id
      simp [q_A, va_up_self, h, upd, hj]
    · simp only [q_A, va_up_ne _ _ e]
  · by_cases e : b = a
    · subst e; simp only [q_R, va_up_self, h]
    · simp only [q_R, va_up_ne _ _ e]
  · by_cases e : b = a
    · subst e; simp only [q_I, va_up_self, h]
    · simp only [q_I, va_up_ne _ _ e]
  · by_cases e : b = a
    · subst e; simp only [q_Q, va_up_self, h]
    · simp only [q_Q, va_up_ne _ _ e]
theorem q_pQ.of {σ : q_S} {a k n : Nat} {cA : ClassId} {f : Nat → Option Nat} {r : Nat} (h : σ a = .inl (cA, n, .inr (.inr (.inr (.inr f))))) : q_pQ σ (va_up σ a (.inl (cA, n, .inr (.inr (.inr (.inr (va_up f k (some r)))))))) a k r := by
  refine ⟨?_, fun b j hb => ?_, fun b j => ?_, fun b j => ?_, fun b j => ?_⟩
  · simp [q_Q, va_up_self]
  · by_cases e : b = a
    · subst e
      have hj : j ≠ k := hb.elim (fun q => absurd rfl q) id
      simp [q_Q, va_up_self, h, va_up_ne _ _ hj]
    · simp only [q_Q, va_up_ne _ _ e]
  · by_cases e : b = a
    · subst e; simp only [q_R, va_up_self, h]
    · simp only [q_R, va_up_ne _ _ e]
  · by_cases e : b = a
    · subst e; simp only [q_I, va_up_self, h]
    · simp only [q_I, va_up_ne _ _ e]
  · by_cases e : b = a
    · subst e; simp only [q_A, va_up_self, h]
    · simp only [q_A, va_up_ne _ _ e]
