/-! what the odds are made of -/
def kch (n k : Int32) : Nat → Int64
  | 0 => 1
  | j + 1 => kch n k j * (n - k + nI (j + 1)).toInt64 / (nI (j + 1)).toInt64
def kpw (b : Int64) : Nat → Int64
  | 0 => 1
  | j + 1 => kpw b j * b
def kgc : Nat → Int64 → Int64 → Int64
  | 0, x, _ => x
  | f + 1, x, y => if y ≤ 0 then x else kgc f y (x - x / y * y)
def kgd : Nat → Int64 → Int64 → Bool
  | 0, _, y => decide (y ≤ 0)
  | f + 1, x, y => decide (y ≤ 0) || kgd f y (x - x / y * y)
theorem q_nIe {i : Int32} {j : Nat} (h : i.toInt = (j : Int)) (hj : j < 2147483648) : nI j = i := Int32.toInt_inj.mp (by rw [nI_toInt hj, h])
theorem kch_step {n k i i2 : Int32} {acc : Int64} {lo hi : Int} (h : acc = kch n k (i.toInt.toNat - 1)) (hv : q_V lo hi i) (h1 : 1 ≤ lo) (e : i2.toInt = i.toInt + 1) : acc * (n - k + i).toInt64 / i.toInt64 = kch n k (i2.toInt.toNat - 1) := by
  have hl := hv.1
  have hm := (q_all i).2
  obtain ⟨j, hj⟩ : ∃ j : Nat, i.toInt = (j : Int) + 1 := ⟨(i.toInt - 1).toNat, by omega⟩
  have a : i.toInt.toNat - 1 = j := by omega
  have b : i2.toInt.toNat - 1 = j + 1 := by omega
  have c : nI (j + 1) = i := q_nIe (by rw [hj]; rfl) (by omega)
  rw [b, h, a, kch, c]
theorem kpw_step {b acc : Int64} {i i2 : Int32} {lo hi : Int} (h : acc = kpw b i.toInt.toNat) (hv : q_V lo hi i) (h1 : 0 ≤ lo) (e : i2.toInt = i.toInt + 1) : acc * b = kpw b i2.toInt.toNat := by
  have hl := hv.1
  rw [show i2.toInt.toNat = i.toInt.toNat + 1 by omega, kpw, h]
theorem kgc_stop {f : Nat} {x y : Int64} (h : y ≤ 0) : kgc f x y = x := by
  cases f with
  | zero => rfl
  | succ f => rw [kgc, if_pos h]
theorem kgc_step {f : Nat} {x y : Int64} (h : 0 < y) : kgc (f + 1) x y = kgc f y (x - x / y * y) := by
  rw [kgc, if_neg (Int64.not_le.mpr h)]
theorem kgd_pos {f : Nat} {x y : Int64} (h : kgd f x y = true) (hy : 0 < y) : ∃ g, f = g + 1 ∧ kgd g y (x - x / y * y) = true := by
  cases f with
  | zero => exact absurd (of_decide_eq_true h) (Int64.not_le.mpr hy)
  | succ g =>
    refine ⟨g, rfl, ?_⟩
    simp only [kgd, Bool.or_eq_true, decide_eq_true_eq] at h
    exact h.resolve_left (Int64.not_le.mpr hy)
def ksm (n p l : Int32) : Nat → Int64
  | 0 => 0
  | j + 1 => ksm n p l j + kch n (l + nI j) (l + nI j).toInt.toNat * kpw (10 - p).toInt64 (l + nI j).toInt.toNat * kpw p.toInt64 (n - (l + nI j)).toInt.toNat
theorem ksm_step {n p l x x2 u z : Int32} {all ch p1 p2 : Int64} (h : all = ksm n p l (x.toInt - l.toInt).toNat) (hl : l.toInt ≤ x.toInt) (h0 : 0 ≤ l.toInt) (e : x2.toInt = x.toInt + 1) (e1 : ch = kch n x x.toInt.toNat) (e2 : p1 = kpw u.toInt64 x.toInt.toNat) (eu : u = 10 - p) (e3 : p2 = kpw p.toInt64 z.toInt.toNat) (ez : z = n - x) :
    all + ch * p1 * p2 = ksm n p l (x2.toInt - l.toInt).toNat := by
  obtain ⟨j, hj⟩ : ∃ j : Nat, (x.toInt - l.toInt).toNat = j := ⟨_, rfl⟩
  have hm := (q_all x).2
  have hx : l + nI j = x := Int32.toInt_inj.mp (by rw [Int32.toInt_add, nI_toInt (by omega), q_bm _ (by omega) (by omega)]; omega)
  rw [show (x2.toInt - l.toInt).toNat = j + 1 by omega, ksm, hx, ← hj, ← h, e1, e2, e3, eu, ez]
def kdm (n p l w : Int32) : Bool := decide ((0 ≤ n.toInt ∧ n.toInt ≤ 8) ∧ (0 ≤ p.toInt ∧ p.toInt ≤ 10) ∧ (0 ≤ l.toInt ∧ l.toInt ≤ 9) ∧ 0 ≤ w.toInt ∧ w.toInt ≤ 1)
def kal (n p l : Int32) : Int64 := ksm n p l (n.toInt + 1 - l.toInt).toNat
def kwy (n : Int32) : Int64 := kpw 10 n.toInt.toNat
def kdv (n p l : Int32) : Int64 := kgc 100 (kal n p l) (kwy n)
def kdw (n p l : Int32) : Int64 := kgc 100 (kwy n) (kal n p l)
