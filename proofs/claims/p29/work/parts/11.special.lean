/-! calls of the JDK's own members, and calls by a kind -/
theorem q_andm {x m : Int32} (k : Nat) (hm : m.toBitVec.toNat = 2 ^ k - 1) (hk : k ≤ 30) : q_V 0 (2 ^ k - 1) (x &&& m) := by
  have h : (x &&& m) = nI (x.toBitVec.toNat % 2 ^ k) := pk_and x k hm
  rw [h]
  have h0 : 2 ^ k ≤ 2 ^ 30 := Nat.pow_le_pow_right (by decide) hk
  have h1 : x.toBitVec.toNat % 2 ^ k < 2 ^ k := Nat.mod_lt _ (Nat.pow_pos (by decide))
  have h2 := nI_toInt (n := x.toBitVec.toNat % 2 ^ k) (by omega)
  have h3 : ((2 ^ k : Nat) : Int) = (2 : Int) ^ k := by push_cast; rfl
  unfold q_V; rw [h2]; omega
theorem q_fc {x : Int32} (h : 0 ≤ x.toInt ∧ x.toInt ≤ 65535) : fits .char (.int x) = true := by
  have h1 := lg_i2c_word (v := x) h.1 (by have := h.2; omega)
  have h2 := pk_fc x
  rw [h1] at h2; exact h2
/-- a row of numbers copied into another -/
def q_pC (σ σ1 : q_S) (a a0 : Nat) (sp dp n : Int32) : Prop := (∀ j, q_A σ1 a j = va_cpy (q_A σ a0) (q_A σ a) sp.toNatClampNeg dp.toNatClampNeg n.toNatClampNeg j) ∧ (∀ b j, b ≠ a ∨ False → q_A σ1 b j = q_A σ b j) ∧ (∀ b j, q_R σ1 b j = q_R σ b j) ∧ (∀ b j, q_I σ1 b j = q_I σ b j) ∧ (∀ b j, q_Q σ1 b j = q_Q σ b j)
section QSP
variable {p : Program} {l : Launch} {e : Env} {R : Room} {s : State} {m : MethodId} {args : Array Value} {below : List Frame} {meth : Method} {c : Code} {H : Heap} {locs : List Loc} {cells slots : Nat} {Q : State → Prop}
variable {cc bytes : ByteArray} {nL pc d maxL n index : Nat} {own C owner : String} {x y : MethodName} {ret : Option FieldType} {ls : Array Slot} {As rest st0 : List Value} {G : q_G} {σ σ0 : q_S} {H0 : Heap} {ts t1 : List Nat} {a b t : Nat}
theorem q_aleni (hE : q_E G p s m args c cc nL own) (hW : q_Wd G ts σ0 H0 σ H locs) (ht : q_T G a = t) {n : Nat} (hs : q_sI t = some (0, n)) {v : Int32} (hv : Int32.ofNat n = v) (hdg : decode cc pc = .ok (.arraylength, 1))
    (kk : W p l e R s m args below meth c H locs cells slots Q (F0 m (pc + 1) ls (.int v :: rest))) : W p l e R s m args below meth c H locs cells slots Q (F0 m pc ls (.ref a :: rest)) := by
  obtain ⟨hL, f, e0, -⟩ := hW.1.arr ht hs
  obtain ⟨q0, hq⟩ := va_pl_get (X := []) (f := σ) hL
  rw [List.nil_append, e0] at hq
  exact va_alen hE.1.1 hE.1.2.1 hE.2.1 hW.1.1 q0 0 hq rfl hv hdg kk
theorem q_acopy (hE : q_E G p s m args c cc nL own) (hW : q_Wd G ts σ0 H0 σ H locs) {a0 t0 ci n0 n1 : Nat} (h0 : q_T G a0 = t0) (h1 : q_T G a = t) (hs0 : q_sI t0 = some (ci, n0)) (hs1 : q_sI t = some (ci, n1)) (hci : (ci = 0) ∨ (ci = 2 ∧ t0 = 14)) {sp dp n : Int32} (hsp : ¬ sp < 0) (hdp : ¬ dp < 0) (hn : ¬ n < 0) (h4 : sp.toNatClampNeg + n.toNatClampNeg ≤ n0) (h5 : dp.toNatClampNeg + n.toNatClampNeg ≤ n1)
    (hP : ∀ (i j : Nat) (x : Int), q_eP t0 i x → q_eP t j x) (hts : t ∈ ts) (w1 : Cond.methodLink own index arraycopyName ∈ wsL_law) (w2 : Cond.native arraycopyName ∈ wsL_law) (w3 : Cond.static arraycopyName ∈ wsL_law) (w4 : Cond.initialized "java/lang/System" ∈ wsL_law) (hsz : ls.size = nL) (hfr : 1 ≤ R.frames) (hlo : (rest.map fun v => v.category).sum + (nativeFrameWords "java/lang/System" "arraycopy" 5 + 11) ≤ R.locals) (hdg : decode cc pc = .ok (.invokestatic index, 3))
    (kk : ∀ (H1 : Heap) (locs1 : List Loc) (σ1 : q_S), q_pC σ σ1 a a0 sp dp n → q_Wd G ts σ0 H0 σ1 H1 locs1 → W p l e R s m args below meth c H1 locs1 cells slots Q (F0 m (pc + 3) ls rest)) : W p l e R s m args below meth c H locs cells slots Q (F0 m pc ls (.int n :: .int dp :: .ref a :: .int sp :: .ref a0 :: rest)) := by
  obtain ⟨hL0, f, e0, hv0⟩ := hW.1.arr h0 hs0
  obtain ⟨hL1, g, e1, hv1⟩ := hW.1.arr h1 hs1
  obtain ⟨q0, hq0⟩ := va_pl_get (X := []) (f := σ) hL0
  obtain ⟨q1, hq1⟩ := va_pl_get (X := []) (f := σ) hL1
  have hq1' := hq1
  rw [List.nil_append, e0] at hq0
  rw [List.nil_append, e1] at hq1
  have hst := fun (e9 : va_E) => va_pl_set (X := []) (e := e9) hW.1.2.1 hL1 hq1'
  simp only [List.nil_append] at hst
  have hfA : q_A σ a0 = f := by funext j; simp [q_A, e0]
  have hgA : q_A σ a = g := by funext j; simp [q_A, e1]
  have hup : ∀ (H1 : Heap) (locs1 : List Loc), va_P (q_D G) vwCl ((va_pl (q_L G) σ).set q1 (a, .inl (q_C G ci, n1, .inl (va_cpy f g sp.toNatClampNeg dp.toNatClampNeg n.toNatClampNeg)))) H1 → va_D (q_N G) ((va_pl (q_L G) σ).set q1 (a, .inl (q_C G ci, n1, .inl (va_cpy f g sp.toNatClampNeg dp.toNatClampNeg n.toNatClampNeg)))) → va_S (q_N G) H0 H1 locs1 → W p l e R s m args below meth c H1 locs1 cells slots Q (F0 m (pc + 3) ls rest) := by
    intro H1 locs1 g1 g2 g3
    rw [hst] at g1 g2
    refine kk H1 locs1 _ ?_ ⟨hW.1.up hL1 ?_ g1 g2, hW.2.1.up (by rw [h1]; exact hts), g3⟩
    · refine ⟨fun j => ?_, fun b j hb => ?_, fun b j => ?_, fun b j => ?_, fun b j => ?_⟩
      · simp only [q_A, va_up_self]; rw [hfA, hgA]
      · simp only [q_A, va_up_ne _ _ (hb.elim id False.elim)]
      · by_cases e9 : b = a
        · subst e9; simp only [q_R, va_up_self, e1]
        · simp only [q_R, va_up_ne _ _ e9]
      · by_cases e9 : b = a
        · subst e9; simp only [q_I, va_up_self, e1]
        · simp only [q_I, va_up_ne _ _ e9]
      · by_cases e9 : b = a
        · subst e9; simp only [q_Q, va_up_self, e1]
        · simp only [q_Q, va_up_ne _ _ e9]
    · rw [h1]
      refine q_okarr hs1 fun j hj => ?_
      by_cases hin : dp.toNatClampNeg ≤ j ∧ j < dp.toNatClampNeg + n.toNatClampNeg
      · rw [pk_cpy_in hin.1 hin.2]
        exact hP _ _ _ (hv0 _ (by omega))
      · rw [pk_cpy_out (by omega)]
        exact hv1 j hj
  rcases hci with rfl | ⟨rfl, rfl⟩
  · exact va_copyi (ty := .int) hE.1.1 hE.1.2.1 (hE.1.2.2.1.trans hsz.symm) hE.1.2.2.2.1 (hE.w w1) (hE.w w2) (hE.w w3) (hE.w w4) hE.2.1 hW.1.1 hW.1.2.1 hW.2.2 q0 q1 0 0 hq0 hq1 rfl rfl rfl hsp hdp hn h4 h5 (fun i _ => rfl) hfr hlo hdg hup
  · exact va_copyi (ty := .char) hE.1.1 hE.1.2.1 (hE.1.2.2.1.trans hsz.symm) hE.1.2.2.2.1 (hE.w w1) (hE.w w2) (hE.w w3) (hE.w w4) hE.2.1 hW.1.1 hW.1.2.1 hW.2.2 q0 q1 2 2 hq0 hq1 rfl rfl rfl hsp hdp hn h4 h5 (fun i hi => q_fc (hv0 _ (by omega))) hfr hlo hdg hup
end QSP
theorem q_hp {f n mn y : Int32} {a b c d u v : Int} (hf : q_V a b f) (hn : q_V c d n) (hm : q_V u v mn) (ey : y = mn - n) (h : f ≤ y) (ha : 0 ≤ a) (hc : 0 ≤ c) (hu : 0 ≤ u) (hv : v ≤ 16) : 0 ≤ f.toInt ∧ 0 ≤ n.toInt ∧ f.toInt + n.toInt ≤ 16 := by
  obtain ⟨f1, f2⟩ := hf
  obtain ⟨n1, n2⟩ := hn
  obtain ⟨m1, m2⟩ := hm
  have h2 := Int32.le_iff_toInt_le.mp h
  have e : y.toInt = mn.toInt - n.toInt := by
    rw [ey]; exact q_subT (a := 0) (b := 16) (c := 0) (d := 2147483647) ⟨by omega, by omega⟩ ⟨by omega, (q_all n).2⟩ (by decide) (by decide)
  exact ⟨by omega, by omega, by omega⟩
theorem q_hp1 {f n : Int32} (h : 0 ≤ f.toInt ∧ 0 ≤ n.toInt ∧ f.toInt + n.toInt ≤ 16) : q_V 0 16 f := ⟨h.1, by omega⟩
theorem q_hp2 {f n : Int32} (h : 0 ≤ f.toInt ∧ 0 ≤ n.toInt ∧ f.toInt + n.toInt ≤ 16) : q_V 0 16 n := ⟨h.2.1, by omega⟩
theorem q_hp3 {f n : Int32} (h : 0 ≤ f.toInt ∧ 0 ≤ n.toInt ∧ f.toInt + n.toInt ≤ 16) (hn : n.toInt = 1) : f.toInt ≤ 15 := by omega
theorem q_hp4 {f n : Int32} (h : 0 ≤ f.toInt ∧ 0 ≤ n.toInt ∧ f.toInt + n.toInt ≤ 16) : f.toNatClampNeg + n.toNatClampNeg ≤ 16 := by
  show f.toInt.toNat + n.toInt.toNat ≤ 16; omega
theorem q_hp5 {z f n : Int32} (h : 0 ≤ f.toInt ∧ 0 ≤ n.toInt ∧ f.toInt + n.toInt ≤ 16) (hz : z.toNatClampNeg = 0) : z.toNatClampNeg + n.toNatClampNeg ≤ 16 := by
  rw [hz]; show 0 + n.toInt.toNat ≤ 16; omega
theorem q_ge0 {a b : Int} {x : Int32} (h : q_V a b x) (ha : 0 ≤ a) : ¬ x < 0 := fun q => by
  have := Int32.lt_iff_toInt_lt.mp q
  have h1 := h.1
  simp at this; omega
