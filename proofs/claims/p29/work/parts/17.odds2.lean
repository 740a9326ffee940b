def k11 (n p l w : Int32) : Int32 := if kdm n p l w = true then (if kdv n p l < 1 then -1 else ((if w = 0 then kal n p l else kwy n) / kdv n p l).toInt32) else -3
def k12 (n p l w : Int32) : Int32 := if kdm n p l w = true then ((if w = 0 then kal n p l else kwy n) / kdw n p l).toInt32 else -3
def kone (n p l : Int32) : Bool := kgd 100 (kwy n) (kal n p l) && (decide ((1 : Int64) ≤ kdw n p l) && (decide ((1 : Int64) ≤ kdv n p l) && (decide ((kal n p l / kdv n p l).toInt32 = (kal n p l / kdw n p l).toInt32) && decide ((kwy n / kdv n p l).toInt32 = (kwy n / kdw n p l).toInt32))))
def kall : Bool := (List.range 9).all fun n => (List.range 11).all fun p => (List.range 10).all fun l => kone (nI n) (nI p) (nI l)
set_option maxRecDepth 100000 in
theorem kall_true : kall = true := by decide +kernel
theorem kone_true {n p l w : Int32} (h : kdm n p l w = true) : kone n p l = true := by
  obtain ⟨⟨a1, a2⟩, ⟨b1, b2⟩, ⟨c1, c2⟩, -⟩ := of_decide_eq_true h
  have ha : nI n.toInt.toNat = n := q_nIe (by omega) (by omega)
  have hb : nI p.toInt.toNat = p := q_nIe (by omega) (by omega)
  have hc : nI l.toInt.toNat = l := q_nIe (by omega) (by omega)
  have h1 := List.all_eq_true.mp kall_true n.toInt.toNat (List.mem_range.mpr (by omega))
  have h2 := List.all_eq_true.mp h1 p.toInt.toNat (List.mem_range.mpr (by omega))
  have h3 := List.all_eq_true.mp h2 l.toInt.toNat (List.mem_range.mpr (by omega))
  rw [ha, hb, hc] at h3; exact h3
theorem k11_12 (n p l w : Int32) : k11 n p l w = k12 n p l w := by
  unfold k11 k12
  by_cases h : kdm n p l w = true
  · rw [if_pos h, if_pos h]
    have h1 := kone_true h
    simp only [kone, Bool.and_eq_true, decide_eq_true_eq] at h1
    rw [if_neg (Int64.not_lt.mpr h1.2.2.1)]
    by_cases hw : w = 0
    · rw [if_pos hw]; exact h1.2.2.2.1
    · rw [if_neg hw]; exact h1.2.2.2.2
  · rw [if_neg h, if_neg h]
theorem k11_out {n p l w : Int32} (h : ¬ ((0 ≤ n.toInt ∧ n.toInt ≤ 8) ∧ (0 ≤ p.toInt ∧ p.toInt ≤ 10) ∧ (0 ≤ l.toInt ∧ l.toInt ≤ 9) ∧ 0 ≤ w.toInt ∧ w.toInt ≤ 1)) : -3 = k11 n p l w := by
  unfold k11; rw [if_neg (fun q : kdm n p l w = true => h (of_decide_eq_true q))]
theorem k12_out {n p l w : Int32} (h : ¬ ((0 ≤ n.toInt ∧ n.toInt ≤ 8) ∧ (0 ≤ p.toInt ∧ p.toInt ≤ 10) ∧ (0 ≤ l.toInt ∧ l.toInt ≤ 9) ∧ 0 ≤ w.toInt ∧ w.toInt ≤ 1)) : -3 = k12 n p l w := by
  unfold k12; rw [if_neg (fun q : kdm n p l w = true => h (of_decide_eq_true q))]
theorem q_sub0 {z n k : Int32} {a b c d : Int} (e : z = n - k) (hn : q_V a b n) (hk : q_V c d k) (h : k ≤ n) (h1 : 0 ≤ a ∧ b ≤ 9) (h2 : 0 ≤ c) (h3 : d ≤ 100) : q_V 0 9 z := by
  have h4 := Int32.le_iff_toInt_le.mp h
  have h5 : z.toInt = n.toInt - k.toInt := by rw [e]; exact q_subT hn hk (by omega) (by omega)
  have := hn.1
  have := hn.2
  have := hk.1
  exact ⟨by omega, by omega⟩
theorem kal_of {n p l x : Int32} {all : Int64} (h : all = ksm n p l (x.toInt - l.toInt).toNat) (h1 : l.toInt ≤ x.toInt) (h2 : x.toInt ≤ n.toInt + 1 ∨ x.toInt = l.toInt) (h3 : n < x) : all = kal n p l := by
  have h4 := Int32.lt_iff_toInt_lt.mp h3
  rw [h, kal]; congr 1; omega
theorem q_lremN {x y z : Int64} (e : z = x - x / y * y) (h : 0 < y) : z.toInt.toNat < y.toInt.toNat := by
  have h1 := Int64.lt_iff_toInt_lt.mp h
  have h2 : (0 : Int64).toInt = 0 := by decide
  rw [h2] at h1
  have hx := Int64.le_toInt x
  have hx2 := Int64.toInt_lt x
  have hy2 := Int64.toInt_lt y
  have h3 := Int.tmod_lt_of_pos x.toInt h1
  have h4 : -y.toInt < x.toInt.tmod y.toInt := Int.lt_tmod_of_pos x.toInt h1
  have h5 : z.toInt = x.toInt.tmod y.toInt := by
    rw [e, Int64.toInt_sub, Int64.toInt_mul, Int64.toInt_div, Int.bmod_mul_bmod, Int.sub_bmod_bmod, Int.tmod_def, Int.mul_comm y.toInt]
    rw [Int.tmod_def, Int.mul_comm y.toInt] at h3 h4
    exact q_bm64 _ (by omega) (by omega)
  rw [h5]
  omega
theorem k_dm {n p l w : Int32} (h : (0 ≤ n.toInt ∧ n.toInt ≤ 8) ∧ (0 ≤ p.toInt ∧ p.toInt ≤ 10) ∧ (0 ≤ l.toInt ∧ l.toInt ≤ 9) ∧ 0 ≤ w.toInt ∧ w.toInt ≤ 1) : kdm n p l w = true := decide_eq_true h
theorem k_ways {n : Int32} {b : Int32} {ways : Int64} (h : ways = kpw b.toInt64 n.toInt.toNat) (hb : b = 10) : ways = kwy n := by rw [h, hb]; rfl
theorem k11_get {n p l w r : Int32} {all ways d q : Int64} (hd : kdm n p l w = true) (ha : all = kal n p l) (hb : ways = kwy n) (hg : d = kgc 100 all ways) (hq : (w = 0 ∧ q = all / d) ∨ (¬ w = 0 ∧ q = ways / d)) (hr : r = q.toInt32) : r = k11 n p l w := by
  have h1 := kone_true hd
  simp only [kone, Bool.and_eq_true, decide_eq_true_eq] at h1
  have e : d = kdv n p l := by rw [hg, ha, hb]; rfl
  unfold k11
  rw [if_pos hd, if_neg (Int64.not_lt.mpr h1.2.2.1), hr]
  rcases hq with ⟨hw, hq⟩ | ⟨hw, hq⟩
  · rw [if_pos hw, hq, ha, e]
  · rw [if_neg hw, hq, hb, e]
theorem k11_low {n p l w : Int32} {all ways d : Int64} (hd : kdm n p l w = true) (ha : all = kal n p l) (hb : ways = kwy n) (hg : d = kgc 100 all ways) (h : d < 1) : -1 = k11 n p l w := by
  have h1 := kone_true hd
  simp only [kone, Bool.and_eq_true, decide_eq_true_eq] at h1
  have e : d = kdv n p l := by rw [hg, ha, hb]; rfl
  rw [e] at h
  exact absurd h1.2.2.1 (Int64.not_le.mpr h)
theorem k12_get {n p l w r : Int32} {all ways d q : Int64} (hd : kdm n p l w = true) (ha : all = kal n p l) (hb : ways = kwy n) (hg : d = kgc 100 ways all) (hq : (w = 0 ∧ q = all / d) ∨ (¬ w = 0 ∧ q = ways / d)) (hr : r = q.toInt32) : r = k12 n p l w := by
  have e : d = kdw n p l := by rw [hg, ha, hb]; rfl
  unfold k12
  rw [if_pos hd, hr]
  rcases hq with ⟨hw, hq⟩ | ⟨hw, hq⟩
  · rw [if_pos hw, hq, ha, e]
  · rw [if_neg hw, hq, hb, e]
theorem k12_gd {n p l w : Int32} {all ways : Int64} (hd : kdm n p l w = true) (ha : all = kal n p l) (hb : ways = kwy n) : kgd 100 ways all = true := by
  have h1 := kone_true hd
  simp only [kone, Bool.and_eq_true, decide_eq_true_eq] at h1
  rw [ha, hb]; exact h1.1
theorem k12_ne {n p l w : Int32} {all ways d : Int64} (hd : kdm n p l w = true) (ha : all = kal n p l) (hb : ways = kwy n) (hg : d = kgc 100 ways all) : ¬ d = 0 := by
  have h1 := kone_true hd
  simp only [kone, Bool.and_eq_true, decide_eq_true_eq] at h1
  have e : d = kdw n p l := by rw [hg, ha, hb]; rfl
  have h2 := h1.2.1
  rw [← e] at h2
  intro h3; rw [h3] at h2; exact absurd h2 (by decide)
