def q_VL (lo hi : Int) (x : Int64) : Prop := lo ≤ x.toInt ∧ x.toInt ≤ hi
theorem q_lc {k : Int} {x : Int64} (h : x.toInt = k) : q_VL k k x := ⟨Int.le_of_eq h.symm, Int.le_of_eq h⟩
theorem q_l {a b : Int} {x : Int32} (h : q_V a b x) : q_VL a b x.toInt64 := by
  unfold q_VL; rw [Int32.toInt_toInt64]; exact h
/-- what 'in' says of an int -/
theorem q_inV {x : Int32} {a b : Int64} {la ha lb hb : Int} (h1 : a ≤ x.toInt64) (h2 : x.toInt64 ≤ b) (fa : q_VL la ha a) (fb : q_VL lb hb b) : q_V la hb x := by
  have e1 := Int64.le_iff_toInt_le.mp h1
  have e2 := Int64.le_iff_toInt_le.mp h2
  rw [Int32.toInt_toInt64] at e1 e2
  exact ⟨Int.le_trans fa.1 e1, Int.le_trans e2 fb.2⟩
theorem q_neT {G : q_G} {a b s t : Nat} (ha : q_T G b = s) (hb : q_T G a = t) (h : s ≠ t) : b ≠ a := fun e => h (by rw [← ha, ← hb, e])
theorem q_nat {a b : Int} {x : Int32} {A B : Nat} (h : q_V a b x) (h1 : (A : Int) ≤ a) (h2 : b ≤ (B : Int)) : A ≤ x.toNatClampNeg ∧ x.toNatClampNeg ≤ B := by
  obtain ⟨h3, h4⟩ := h
  have h5 : x.toNatClampNeg = x.toInt.toNat := rfl
  omega
theorem q_out {a b : Int} {x : Int32} {P : Prop} (h : q_V a b x) (h1 : 54 ≤ x.toNatClampNeg) (h2 : x.toNatClampNeg ≤ 56) (hd : b < 54 ∨ 56 < a) : P := by
  obtain ⟨h3, h4⟩ := h
  have h5 : x.toNatClampNeg = x.toInt.toNat := rfl
  exfalso; omega
theorem q_tag {G : q_G} {r t : Nat} (h1 : (t : Int) ≤ (q_T G r : Int)) (h2 : (q_T G r : Int) ≤ (t : Int)) : q_T G r = t := by omega
theorem q_both {a b c d e f : Int} {x : Int32} (h1 : q_V a b x) (h2 : q_V c d x) (he : e ≤ a ∨ e ≤ c) (hf : b ≤ f ∨ d ≤ f) : q_V e f x := by
  obtain ⟨a1, a2⟩ := h1; obtain ⟨b1, b2⟩ := h2
  exact ⟨by omega, by omega⟩
theorem q_eq1 {a b c d e f : Int} {x y : Int32} (hx : q_V a b x) (hy : q_V c d y) (h : x = y) (he : e ≤ a ∨ e ≤ c) (hf : b ≤ f ∨ d ≤ f) : q_V e f x := by
  subst h; exact q_both hx hy he hf
theorem q_eq2 {a b c d e f : Int} {x y : Int32} (hx : q_V a b x) (hy : q_V c d y) (h : x = y) (he : e ≤ a ∨ e ≤ c) (hf : b ≤ f ∨ d ≤ f) : q_V e f y := by
  subst h; exact q_both hx hy he hf
theorem q_ine {x y : Int32} (h : ¬ x = y) : x.toInt ≠ y.toInt := fun e => h (Int32.toInt_inj.mp e)
theorem q_ne1 {a b c e : Int} {x y : Int32} (hx : q_V a b x) (hy : q_V c c y) (h : ¬ x = y) (he : a = c ∧ e ≤ a + 1) : q_V e b x := by
  have := q_ine h
  obtain ⟨a1, a2⟩ := hx; obtain ⟨b1, b2⟩ := hy
  exact ⟨by omega, by omega⟩
theorem q_ne2 {a b c e : Int} {x y : Int32} (hx : q_V a b x) (hy : q_V c c y) (h : ¬ x = y) (he : b = c ∧ b - 1 ≤ e) : q_V a e x := by
  have := q_ine h
  obtain ⟨a1, a2⟩ := hx; obtain ⟨b1, b2⟩ := hy
  exact ⟨by omega, by omega⟩
theorem q_neq {c : Int} {x y : Int32} {P : Prop} (hx : q_V c c x) (hy : q_V c c y) (h : ¬ x = y) : P := by
  have := q_ine h
  obtain ⟨a1, a2⟩ := hx; obtain ⟨b1, b2⟩ := hy
  exfalso; omega
theorem q_up {N : Int} {x y : Int32} (e : y.toInt = x.toInt + 1) (h : y.toInt ≤ N) : (N - y.toInt).toNat < (N - x.toInt).toNat := by omega
theorem q_dn {N : Int} {x y : Int32} (e : y.toInt = x.toInt + (-1)) (h : N ≤ y.toInt) : (y.toInt - N).toNat < (x.toInt - N).toNat := by omega
theorem q_and1 (x : Int32) : q_V 0 1 (x &&& 1) := by
  have h : (x &&& 1) = nI (x.toBitVec.toNat % 2) := pk_and x 1 (by decide)
  rw [h]
  have h2 := nI_toInt (n := x.toBitVec.toNat % 2) (by omega)
  unfold q_V; rw [h2]; omega
theorem q_ne0 {a b : Int} {x : Int32} (h : q_V a b x) (h0 : 0 < a) : ¬ x = 0 := fun e => by
  subst e; have := h.1; simp at this; omega
theorem q_div {a b c d : Int} {x y : Int32} (hx : q_V a b x) (hy : q_V c d y) (h0 : 0 ≤ a) (h1 : 0 < c) : q_V 0 b (x / y) := by
  obtain ⟨x1, x2⟩ := hx; obtain ⟨y1, y2⟩ := hy
  have hb := (q_all x).2
  have e : (x / y).toInt = x.toInt.tdiv y.toInt := by
    rw [Int32.toInt_div]
    refine q_bm _ ?_ ?_
    · have := Int.tdiv_nonneg (a := x.toInt) (b := y.toInt) (by omega) (by omega); omega
    · have := Int.tdiv_le_self (a := x.toInt) (y.toInt) (by omega); omega
  have e1 := Int.tdiv_nonneg (a := x.toInt) (b := y.toInt) (by omega) (by omega)
  have e2 := Int.tdiv_le_self (a := x.toInt) (y.toInt) (by omega)
  unfold q_V; rw [e]; omega
theorem q_i2c (x : Int32) : q_V 0 65535 ((x.toUInt32 % 65536).toInt32) := by
  rw [pk_char]
  have h2 := nI_toInt (n := x.toBitVec.toNat % 65536) (by omega)
  unfold q_V; rw [h2]; omega
theorem q_sw (x : Int32) (lo hi : Int) : (x.toInt < lo ∨ hi < x.toInt) ∨ (¬ x.toInt < lo ∧ ¬ hi < x.toInt) := by omega
theorem q_01 {x : Int32} (h : q_V 0 1 x) : x = 0 ∨ x = 1 := by
  obtain ⟨h1, h2⟩ := h
  rcases (show x.toInt = 0 ∨ x.toInt = 1 by omega) with h | h
  · exact Or.inl (Int32.toInt_inj.mp (by rw [h]; rfl))
  · exact Or.inr (Int32.toInt_inj.mp (by rw [h]; rfl))
theorem q_narz {x : Int32} (h : q_V 0 1 x) : vp_nar .boolean x = x := by
  rcases q_01 h with rfl | rfl <;> rfl
theorem q_nc {x : Int32} (h : q_V 0 65535 x) : narrow .char (.int x) = .int x := by
  have h1 := lg_i2c_word (v := x) h.1 (by have := h.2; omega)
  have h2 := pk_nc x
  rw [h1] at h2; exact h2
theorem q_narc {x : Int32} (h : q_V 0 65535 x) : vp_nar .char x = x := by
  unfold vp_nar; rw [q_nc h]
section QN
variable {p : Program} {l : Launch} {e : Env} {R : Room} {s : State} {m : MethodId} {args : Array Value} {below : List Frame} {meth : Method} {c : Code} {H : Heap} {locs : List Loc} {cells slots : Nat} {Q : State → Prop}
variable {pc : Nat} {ls : Array Slot} {rest : List Value}
theorem lv_eqi {x y : Int32} (h : x = y) (k : W p l e R s m args below meth c H locs cells slots Q (F0 m pc ls (.int y :: rest))) : W p l e R s m args below meth c H locs cells slots Q (F0 m pc ls (.int x :: rest)) := by rw [h]; exact k
end QN
theorem q_nin {x : Int32} {a b : Int64} {la ha lb hb : Int} (h : ¬ (a ≤ x.toInt64 ∧ x.toInt64 ≤ b)) (fa : q_VL la ha a) (fb : q_VL lb hb b) : ¬ (ha ≤ x.toInt ∧ x.toInt ≤ lb) := fun q => h ⟨Int64.le_iff_toInt_le.mpr (by rw [Int32.toInt_toInt64]; exact Int.le_trans fa.2 q.1), Int64.le_iff_toInt_le.mpr (by rw [Int32.toInt_toInt64]; exact Int.le_trans q.2 fb.1)⟩
