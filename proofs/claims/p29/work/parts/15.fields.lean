/-! a cell's fields stay, but some -/
def q_ff (σ σ1 : q_S) (a : Nat) (ks : List Nat) : Prop := (∀ k, k ∉ ks → q_I σ1 a k = q_I σ a k) ∧ (∀ k, q_R σ1 a k = q_R σ a k)
theorem q_ff.rf {σ : q_S} {a : Nat} {ks : List Nat} : q_ff σ σ a ks := ⟨fun _ _ => rfl, fun _ => rfl⟩
theorem q_ff.wI {σ0 σ σ1 : q_S} {a k : Nat} {ks : List Nat} {x : Int32} (h : q_ff σ0 σ a ks) (p : q_pI σ σ1 a k x) (hk : k ∈ ks) : q_ff σ0 σ1 a ks := ⟨fun j hj => (p.2.1 a j (Or.inr (fun e => hj (by rw [e]; exact hk)))).trans (h.1 j hj), fun j => (p.2.2.1 _ _).trans (h.2 j)⟩
theorem q_ff.wO {σ0 σ σ1 : q_S} {a b k : Nat} {ks : List Nat} {x : Int32} (h : q_ff σ0 σ a ks) (p : q_pI σ σ1 b k x) (hne : a ≠ b) : q_ff σ0 σ1 a ks := ⟨fun j hj => (p.2.1 _ _ (Or.inl hne)).trans (h.1 j hj), fun j => (p.2.2.1 _ _).trans (h.2 j)⟩
theorem q_ff.wR {σ0 σ σ1 : q_S} {a b k r : Nat} {ks : List Nat} (h : q_ff σ0 σ a ks) (p : q_pR σ σ1 b k r) (hne : a ≠ b) : q_ff σ0 σ1 a ks := ⟨fun j hj => (p.2.2.1 _ _).trans (h.1 j hj), fun j => (p.2.1 _ _ (Or.inl hne)).trans (h.2 j)⟩
theorem q_ff.wA {σ0 σ σ1 : q_S} {a b k : Nat} {ks : List Nat} {x : Int32} (h : q_ff σ0 σ a ks) (p : q_pA σ σ1 b k x) : q_ff σ0 σ1 a ks := ⟨fun j hj => (p.2.2.2.1 _ _).trans (h.1 j hj), fun j => (p.2.2.1 _ _).trans (h.2 j)⟩
theorem q_ff.wQ {σ0 σ σ1 : q_S} {a b k r : Nat} {ks : List Nat} (h : q_ff σ0 σ a ks) (p : q_pQ σ σ1 b k r) : q_ff σ0 σ1 a ks := ⟨fun j hj => (p.2.2.2.1 _ _).trans (h.1 j hj), fun j => (p.2.2.1 _ _).trans (h.2 j)⟩
theorem q_ff.wC {σ0 σ σ1 : q_S} {a b c : Nat} {ks : List Nat} {x y z : Int32} (h : q_ff σ0 σ a ks) (p : q_pC σ σ1 b c x y z) : q_ff σ0 σ1 a ks := ⟨fun j hj => (p.2.2.2.1 _ _).trans (h.1 j hj), fun j => (p.2.2.1 _ _).trans (h.2 j)⟩
theorem q_ff.fr {G : q_G} {ts : List Nat} {σ0 σ σ1 : q_S} {a t : Nat} {ks : List Nat} (h : q_ff σ0 σ a ks) (f : q_Fr G ts σ σ1) (ht : q_T G a = t) (hn : t ∉ ts) : q_ff σ0 σ1 a ks := ⟨fun j hj => (f.I j ht hn).trans (h.1 j hj), fun j => (f.R j ht hn).trans (h.2 j)⟩
theorem q_ff.tr {σ0 σ σ1 : q_S} {a : Nat} {ks k2 : List Nat} (h : q_ff σ0 σ a ks) (h2 : q_ff σ σ1 a k2) (hk : ∀ k ∈ k2, k ∈ ks) : q_ff σ0 σ1 a ks := ⟨fun j hj => (h2.1 j (fun q => hj (hk j q))).trans (h.1 j hj), fun j => (h2.2 j).trans (h.2 j)⟩
/-! the words of the kinds -/
section QW
variable {p : Program} {l : Launch} {e : Env} {R : Room} {s : State} {m : MethodId} {args : Array Value} {below : List Frame} {meth : Method} {c : Code} {H : Heap} {locs : List Loc} {cells slots : Nat} {Q : State → Prop}
variable {cc : ByteArray} {nL pc index : Nat} {own : String} {ls : Array Slot} {rest : List Value} {G : q_G}
theorem q_ldcS (hE : q_E G p s m args c cc nL own) (i : Nat) {tx : String} (hi : q_tx[i]? = some (own, index, tx)) (hdg : decode cc pc = .ok (.ldc index, 2))
    (k : W p l e R s m args below meth c H locs cells slots Q (F0 m (pc + 2) ls (.ref (q_aK G i) :: rest))) : W p l e R s m args below meth c H locs cells slots Q (F0 m pc ls rest) :=
  va_ldcS hE.1.1 hE.1.2.1 hE.1.2.2.2.1 (hE.2.2.2.2.1 i _ hi) hdg k
end QW
def q_str9 (G : q_G) (r : Option Nat) : Prop := ∃ k : Nat, k < 9 ∧ r = some (q_aK G k)
set_option maxHeartbeats 4000000 in
theorem c_X0_word (l : Launch) (G : q_G) (σ : q_S) (a0 : Nat) : Met l yX0_word (Cond.code yX0_word cX0_word 1 (some (.object "java/lang/String")) :: wsL_law) (q_Rm 1) (q_Pre G σ [.ref a0]) (q_Qq G [] σ (fun r _ => q_str9 G r)) 0 0 (q_N G) := by
  refine q_ofW (ts := []) (by decide) (Nat.le_of_ble_eq_true rfl) ?_
  intro p e s m args below meth c hE hr hlocks hW ls hl
  have hE : q_E G p s m args c cX0_word 1 RX0 := hE
  refine q_ldcS hE 5 rfl dX0_word_0 ?_
  exact q_retq (some (q_aK G 5)) hE hr hlocks hW ⟨5, by decide, rfl⟩ dX0_word_2
set_option maxHeartbeats 4000000 in
theorem c_X3_word (l : Launch) (G : q_G) (σ : q_S) (a0 : Nat) : Met l yX3_word (Cond.code yX3_word cX3_word 1 (some (.object "java/lang/String")) :: wsL_law) (q_Rm 1) (q_Pre G σ [.ref a0]) (q_Qq G [] σ (fun r _ => q_str9 G r)) 0 0 (q_N G) := by
  refine q_ofW (ts := []) (by decide) (Nat.le_of_ble_eq_true rfl) ?_
  intro p e s m args below meth c hE hr hlocks hW ls hl
  have hE : q_E G p s m args c cX3_word 1 RX3 := hE
  refine q_ldcS hE 6 rfl dX3_word_0 ?_
  exact q_retq (some (q_aK G 6)) hE hr hlocks hW ⟨6, by decide, rfl⟩ dX3_word_2
set_option maxHeartbeats 4000000 in
theorem c_X9_word (l : Launch) (G : q_G) (σ : q_S) (a0 : Nat) : Met l yX9_word (Cond.code yX9_word cX9_word 1 (some (.object "java/lang/String")) :: wsL_law) (q_Rm 1) (q_Pre G σ [.ref a0]) (q_Qq G [] σ (fun r _ => q_str9 G r)) 0 0 (q_N G) := by
  refine q_ofW (ts := []) (by decide) (Nat.le_of_ble_eq_true rfl) ?_
  intro p e s m args below meth c hE hr hlocks hW ls hl
  have hE : q_E G p s m args c cX9_word 1 RX9 := hE
  refine q_ldcS hE 7 rfl dX9_word_0 ?_
  exact q_retq (some (q_aK G 7)) hE hr hlocks hW ⟨7, by decide, rfl⟩ dX9_word_2
set_option maxHeartbeats 4000000 in
theorem c_X10_word (l : Launch) (G : q_G) (σ : q_S) (a0 : Nat) : Met l yX10_word (Cond.code yX10_word cX10_word 1 (some (.object "java/lang/String")) :: wsL_law) (q_Rm 1) (q_Pre G σ [.ref a0]) (q_Qq G [] σ (fun r _ => q_str9 G r)) 0 0 (q_N G) := by
  refine q_ofW (ts := []) (by decide) (Nat.le_of_ble_eq_true rfl) ?_
  intro p e s m args below meth c hE hr hlocks hW ls hl
  have hE : q_E G p s m args c cX10_word 1 RX10 := hE
  refine q_ldcS hE 8 rfl dX10_word_0 ?_
  exact q_retq (some (q_aK G 8)) hE hr hlocks hW ⟨8, by decide, rfl⟩ dX10_word_2
theorem ka_X7_96_1 : q_wA RX7 RX10 "CloudLaundry$Kind" 96 ⟨"CloudLaundry$Kind", "word", "()Ljava/lang/String;"⟩ yX10_word cX10_word 1 (some (.object "java/lang/String")) 0 := ⟨q_goodU wl_315 wl_316 wl_326 wl_327 wl_14 wl_328, by decide, by decide, by decide +kernel⟩
theorem ka_X7_96_2 : q_wA RX7 RX9 "CloudLaundry$Kind" 96 ⟨"CloudLaundry$Kind", "word", "()Ljava/lang/String;"⟩ yX9_word cX9_word 1 (some (.object "java/lang/String")) 0 := ⟨q_goodU wl_315 wl_316 wl_323 wl_324 wl_18 wl_325, by decide, by decide, by decide +kernel⟩
theorem ka_X7_96_3 : q_wA RX7 RX3 "CloudLaundry$Kind" 96 ⟨"CloudLaundry$Kind", "word", "()Ljava/lang/String;"⟩ yX3_word cX3_word 1 (some (.object "java/lang/String")) 0 := ⟨q_goodU wl_315 wl_316 wl_320 wl_321 wl_21 wl_322, by decide, by decide, by decide +kernel⟩
theorem ka_X7_96_4 : q_wA RX7 RX0 "CloudLaundry$Kind" 96 ⟨"CloudLaundry$Kind", "word", "()Ljava/lang/String;"⟩ yX0_word cX0_word 1 (some (.object "java/lang/String")) 0 := ⟨q_goodU wl_315 wl_316 wl_317 wl_318 wl_24 wl_319, by decide, by decide, by decide +kernel⟩
theorem kd_X7_96 {p : Program} (l : Launch) {e : Env} {R : Room} {s : State} {m : MethodId} {args : Array Value} {below : List Frame} {meth : Method} {c : Code} {H : Heap} {locs : List Loc} {cells slots : Nat} {cc : ByteArray} {nL pc : Nat} {ls : Array Slot} {rest st0 : List Value} {G : q_G} {σ σ0 : q_S} {ts : List Nat} {b : Nat} (hE : q_E G p s m args c cc nL RX7) (hW : q_Wd G ts σ0 s.heap σ H locs) (h1 : (1 : Int) ≤ (q_T G b : Int)) (h2 : (q_T G b : Int) ≤ 4) (hsz : ls.size = nL) (hst : st0 = .ref b :: rest) (hrest : (rest.map fun v => v.category).sum ≤ 8) (hdg : decode cc pc = .ok (.invokevirtual 96, 3)) (hR : 3 ≤ R.frames ∧ 120 ≤ R.locals) (hf : cells + 0 ≤ R.cells ∧ slots + 0 ≤ R.slots) :
    va_Run p l e R s m args below meth c H locs cells slots 0 0 (F0 m pc ls st0) rest (q_Qq G [] σ (fun r _ => q_str9 G r) (Value.ref b :: []).toArray) (q_N G) := by
  have hz := hE.2.2.1.2.2.1 ⟨"CloudLaundry$Kind", "word", "()Ljava/lang/String;"⟩ (List.mem_of_getElem? (i := 1) rfl)
  rcases q_kindT h1 h2 with ht | ht | ht | ht
  · exact q_runA (As := []) hE hW (c_X10_word l G σ b) ka_X7_96_1 hz (q_recv hE hW ht rfl q_k10) rfl hsz hst hrest hdg ⟨Nat.le_trans (by decide) hR.1, Nat.le_trans (by decide) hR.2⟩ hf
  · exact q_runA (As := []) hE hW (c_X9_word l G σ b) ka_X7_96_2 hz (q_recv hE hW ht rfl q_k9) rfl hsz hst hrest hdg ⟨Nat.le_trans (by decide) hR.1, Nat.le_trans (by decide) hR.2⟩ hf
  · exact q_runA (As := []) hE hW (c_X3_word l G σ b) ka_X7_96_3 hz (q_recv hE hW ht rfl q_k3) rfl hsz hst hrest hdg ⟨Nat.le_trans (by decide) hR.1, Nat.le_trans (by decide) hR.2⟩ hf
  · exact q_runA (As := []) hE hW (c_X0_word l G σ b) ka_X7_96_4 hz (q_recv hE hW ht rfl q_k0) rfl hsz hst hrest hdg ⟨Nat.le_trans (by decide) hR.1, Nat.le_trans (by decide) hR.2⟩ hf
/-! long divisors that aren't nought -/
theorem q_ln0 {a b : Int} {x : Int64} (h : q_VL a b x) (h0 : 0 < a) : ¬ x = 0 := fun e => by
  have h1 := h.1; rw [e] at h1; exact absurd (Int.lt_of_lt_of_le h0 h1) (by decide)
theorem q_ln1 {x : Int64} (h : (0 : Int64) < x) : ¬ x = 0 := fun e => by rw [e] at h; exact absurd h (by decide)
theorem q_ln2 {x : Int64} (h : (1 : Int64) ≤ x) : ¬ x = 0 := fun e => by rw [e] at h; exact absurd h (by decide)
/-! where the reference reads its text -/
def q_at (σ : q_S) (a : Nat) : Prop := (q_I σ a 12).toInt ≤ (q_I σ a 11).toInt
def q_tk (σ : q_S) (a : Nat) : Prop := (q_I σ a 13).toInt ≠ 0 → (q_I σ a 14).toInt ≤ 199 ∧ (q_I σ a 15).toInt ≤ 200
theorem q_atC {σ σ1 : q_S} {a : Nat} (h : q_at σ a) (e1 : q_I σ1 a 12 = q_I σ a 12) (e2 : q_I σ1 a 11 = q_I σ a 11) : q_at σ1 a := by
  unfold q_at; rw [e1, e2]; exact h
theorem q_at0 {G : q_G} {ts : List Nat} {σ0 σ : q_S} {H0 H : Heap} {locs : List Loc} {a : Nat} (hW : q_Wd G ts σ0 H0 σ H locs) (ht : q_T G a = 40) (e1 : q_I σ a 12 = 0) : q_at σ a := by
  obtain ⟨x, ex, vx⟩ := q_ghi hW ht rfl 11 rfl
  unfold q_at; rw [e1, ex]; exact vx.1
theorem q_inT {σ : q_S} {a : Nat} {x i j : Int32} (e : q_I σ a 16 = x) (h : i.toInt64 ≤ x.toInt64 ∧ x.toInt64 ≤ j.toInt64) : i.toInt ≤ (q_I σ a 16).toInt ∧ (q_I σ a 16).toInt ≤ j.toInt := by
  rw [e]
  exact ⟨by simpa using Int64.le_iff_toInt_le.mp h.1, by simpa using Int64.le_iff_toInt_le.mp h.2⟩
theorem q_tkC {σ σ1 : q_S} {a : Nat} (h : q_tk σ a) (e1 : q_I σ1 a 13 = q_I σ a 13) (e2 : q_I σ1 a 14 = q_I σ a 14) (e3 : q_I σ1 a 15 = q_I σ a 15) : q_tk σ1 a := by
  unfold q_tk; rw [e1, e2, e3]; exact h
theorem q_bm64 (z : Int) (h1 : -9223372036854775808 ≤ z) (h2 : z ≤ 9223372036854775807) : z.bmod (2 ^ 64) = z := by
  rw [Int.bmod_eq_of_le] <;> omega
theorem q_lsum {a b c : Int32} {y : Int64} {lc hc : Int} (e : y = a.toInt64 + b.toInt64) (h : y ≤ c.toInt64) (fc : q_V lc hc c) : a.toInt + b.toInt ≤ hc := by
  have h1 := Int64.le_iff_toInt_le.mp h
  have ha := q_all a
  have hb := q_all b
  rw [e, Int64.toInt_add, Int32.toInt_toInt64, Int32.toInt_toInt64, Int32.toInt_toInt64, q_bm64 _ (by have := ha.1; have := hb.1; omega) (by have := ha.2; have := hb.2; omega)] at h1
  exact Int.le_trans h1 fc.2
theorem q_lsA {a b : Int32} {la ha lb hb hc : Int} (h : a.toInt + b.toInt ≤ hc) (fa : q_V la ha a) (fb : q_V lb hb b) (h0 : 0 ≤ lb) : q_V la hc a := ⟨fa.1, by have := fb.1; omega⟩
theorem q_lsB {a b : Int32} {la ha lb hb hc : Int} (h : b.toInt + a.toInt ≤ hc) (fa : q_V la ha a) (fb : q_V lb hb b) (h0 : 0 ≤ lb) : q_V la hc a := ⟨fa.1, by have := fb.1; omega⟩
theorem q_ixM {i m t f x n w : Int32} {a b c d e g : Int} (e1 : m = 16 * w) (e2 : t = m + f) (e3 : i = t + x) (hw : q_V a b w) (hf : q_V c d f) (hx : q_V e g x) (h1 : 0 ≤ a ∧ b ≤ 2 ∧ 0 ≤ c ∧ d ≤ 16 ∧ 0 ≤ e ∧ g ≤ 16) (hs : f.toInt + n.toInt ≤ 16) (hl : x < n) : q_V 0 47 i := by
  have hl := Int32.lt_iff_toInt_lt.mp hl
  have hw : q_V 0 2 w := hw.w (by omega) (by omega)
  have hf : q_V 0 16 f := hf.w (by omega) (by omega)
  have hx : q_V 0 16 x := hx.w (by omega) (by omega)
  have m1 : q_V 0 32 m := by rw [e1]; exact (q_mul (k := 16) (by decide) hw (by decide) (by decide) (by decide)).w (by decide) (by decide)
  have m2 : m.toInt = 16 * w.toInt := by rw [e1]; exact q_mulT (k := 16) (by decide) hw (by decide) (by decide) (by decide)
  have t1 : q_V 0 48 t := by rw [e2]; exact (q_add m1 hf (by decide) (by decide)).w (by decide) (by decide)
  have t2 : t.toInt = m.toInt + f.toInt := by rw [e2]; exact q_addT m1 hf (by decide) (by decide)
  have t3 : i.toInt = t.toInt + x.toInt := by rw [e3]; exact q_addT t1 hx (by decide) (by decide)
  have := hw.2
  have := hw.1
  have := hf.1
  have := hx.1
  exact ⟨by omega, by omega⟩
