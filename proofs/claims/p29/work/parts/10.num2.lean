theorem q_lit {k : Int} {x y : Int32} (h : q_V k k x) (hy : y.toInt = k) : x = y := Int32.toInt_inj.mp (by have := h.1; have := h.2; omega)
theorem q_cpyI {i a u k : Int32} {b1 b2 c1 c2 : Int} (e1 : i = a + k) (e2 : a = 101 * u) (hu : q_V b1 b2 u) (hk : q_V c1 c2 k) (h1 : 0 ≤ b1) (h2 : b2 ≤ 20) (h3 : 0 ≤ c1) (h4 : c2 ≤ 100) : i.toNatClampNeg % 101 = k.toNatClampNeg := by
  have f2 : a.toInt = 101 * u.toInt := by rw [e2]; exact q_mulT (k := 101) (by decide) hu (by decide) (by omega) (by omega)
  obtain ⟨u1, u2⟩ := hu
  obtain ⟨k1, k2⟩ := hk
  have f1 : i.toInt = a.toInt + k.toInt := by
    rw [e1]; exact q_addT (a := 0) (b := 2020) (c := 0) (d := 100) ⟨by omega, by omega⟩ ⟨by omega, by omega⟩ (by decide) (by decide)
  show i.toInt.toNat % 101 = k.toInt.toNat
  omega
theorem q_cpy {i a u k : Int32} {b1 b2 c1 c2 : Int} {x : Int} (e1 : i = a + k) (e2 : a = 101 * u) (hu : q_V b1 b2 u) (hk : q_V c1 c2 k) (h1 : 0 ≤ b1) (h2 : b2 ≤ 20) (h3 : 0 ≤ c1) (h4 : c2 ≤ 100) (g : q_eP 46 k.toNatClampNeg x) : q_eP 53 i.toNatClampNeg x := by
  have e := q_cpyI e1 e2 hu hk h1 h2 h3 h4
  intro g1 g2
  rw [e] at g1 g2
  exact g g1 g2
theorem q_cpyB {i a u k : Int32} {b1 b2 c1 c2 : Int} {x : Int} (e1 : i = a + k) (e2 : a = 101 * u) (hu : q_V b1 b2 u) (hk : q_V c1 c2 k) (h1 : 0 ≤ b1) (h2 : b2 ≤ 20) (h3 : 0 ≤ c1) (h4 : c2 ≤ 100) (g : q_eP 53 i.toNatClampNeg x) : q_eP 46 k.toNatClampNeg x := by
  have e := q_cpyI e1 e2 hu hk h1 h2 h3 h4
  intro g1 g2
  exact g (by rw [e]; exact g1) (by rw [e]; exact g2)
theorem q_cpyC {i j : Int32} {a b : Int} {x : Int} (e : j = i - 101) (hi : q_V a b i) (h1 : 101 ≤ a) (h2 : b ≤ 807) (g : q_eP 53 i.toNatClampNeg x) : q_eP 53 j.toNatClampNeg x := by
  obtain ⟨i1, i2⟩ := hi
  have f : j.toInt = i.toInt - 101 := by
    rw [e]; exact q_subT (a := 101) (b := 807) (c := 101) (d := 101) ⟨by omega, by omega⟩ ⟨by decide, by decide⟩ (by decide) (by decide)
  have e2 : j.toNatClampNeg % 101 = i.toNatClampNeg % 101 := by
    show j.toInt.toNat % 101 = i.toInt.toNat % 101
    omega
  intro g1 g2
  rw [e2] at g1 g2
  exact g g1 g2
theorem q_peg {i : Nat} {lo hi : Int} {x : Int32} (g : q_eP 66 i x.toInt) (h : q_V lo hi x) (hd : hi < 1000) : q_V lo 6 x := by
  obtain ⟨h1, h2⟩ := h
  obtain ⟨g1, g2⟩ := g
  exact ⟨h1, by omega⟩
theorem q_maxV {a b c d e f : Int} {x y z : Int32} (hx : q_V a b x) (hy : q_V c d y) (ez : z = if x < y then y else x) (he : e ≤ a ∨ e ≤ c) (hf : b ≤ f ∧ d ≤ f) : q_V e f z := by
  subst ez
  obtain ⟨x1, x2⟩ := hx; obtain ⟨y1, y2⟩ := hy
  by_cases h : x < y
  · rw [if_pos h]; have := Int32.lt_iff_toInt_lt.mp h; exact ⟨by omega, by omega⟩
  · rw [if_neg h]; have := Int32.le_iff_toInt_le.mp (Int32.not_lt.mp h); exact ⟨by omega, by omega⟩
theorem q_minV {a b c d e f : Int} {x y z : Int32} (hx : q_V a b x) (hy : q_V c d y) (ez : z = if y < x then y else x) (he : e ≤ a ∧ e ≤ c) (hf : b ≤ f ∨ d ≤ f) : q_V e f z := by
  subst ez
  obtain ⟨x1, x2⟩ := hx; obtain ⟨y1, y2⟩ := hy
  by_cases h : y < x
  · rw [if_pos h]; have := Int32.lt_iff_toInt_lt.mp h; exact ⟨by omega, by omega⟩
  · rw [if_neg h]; have := Int32.le_iff_toInt_le.mp (Int32.not_lt.mp h); exact ⟨by omega, by omega⟩
theorem q_incT {a b : Int} {x y k : Int32} {n : Int} (e : y = x + k) (hx : q_V a b x) (hk : k.toInt = n) (h1 : -2147483648 ≤ a + n) (h2 : b + n ≤ 2147483647) : y.toInt = x.toInt + n := by
  rw [e, q_addT hx (q_c hk) h1 h2, hk]
theorem q_pegO {i : Nat} {a b : Int} {x : Int32} (h : q_V a b x) (h1 : 0 ≤ a) (h2 : b ≤ 6) : q_eP 66 i x.toInt := ⟨Int.le_trans h1 h.1, Or.inl (Int.le_trans h.2 h2)⟩
theorem q_pegN {i : Nat} {a b : Int} {x : Int32} (h : q_V a b x) (h1 : 1000 ≤ a) : q_eP 66 i x.toInt := ⟨Int.le_trans (Int.le_trans (by decide) h1) h.1, Or.inr (Int.le_trans h1 h.1)⟩
