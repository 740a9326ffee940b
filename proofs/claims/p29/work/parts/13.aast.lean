/-! a cell put into a row of cells -/
section QAA
variable {p : Program} {l : Launch} {e : Env} {R : Room} {s : State} {m : MethodId} {args : Array Value} {below : List Frame} {meth : Method} {c : Code} {H : Heap} {locs : List Loc} {cells slots : Nat} {Q : State → Prop}
variable {cc : ByteArray} {nL pc : Nat} {own : String} {ls : Array Slot} {rest : List Value} {G : q_G} {σ σ0 : q_S} {H0 : Heap} {ts : List Nat} {a t : Nat}
theorem q_sR_O {t : Nat} {o} (h : q_sR t = some o) : q_sO t = none ∧ q_sI t = none := by
  unfold q_sR at h
  split at h <;> first | exact ⟨rfl, rfl⟩ | cases h
theorem q_aast (hE : q_E G p s m args c cc nL own) (hW : q_Wd G ts σ0 H0 σ H locs) (ht : q_T G a = t) {ci n lo hi : Nat} (hs : q_sR t = some (ci, n, lo, hi)) {v tv cj : Nat} {fs : List (Nat × Int × Int)} (hv : q_T G v = tv) (hso : q_sO tv = some (cj, fs)) {C : String} {T : u_T} {N : Nat} (hc : q_cls cj C T N) (hty : (q_tys (q_C G))[ci]? = some (q_C G ci, .object C)) (hlo : lo ≤ tv) (hhi : tv ≤ hi) {i : Int32} (hin : vp_in i n) (hts : t ∈ ts) (hdg : decode cc pc = .ok (.aastore, 1))
    (kk : ∀ (H1 : Heap) (locs1 : List Loc) (σ1 : q_S), q_pQ σ σ1 a i.toNatClampNeg v → q_Wd G ts σ0 H0 σ1 H1 locs1 → W p l e R s m args below meth c H1 locs1 cells slots Q (F0 m (pc + 1) ls rest)) : W p l e R s m args below meth c H locs cells slots Q (F0 m pc ls (.ref v :: .int i :: .ref a :: rest)) := by
  obtain ⟨hL, f, e0, hq⟩ := hW.1.arq ht hs
  obtain ⟨hLv, vs, ev, -, -⟩ := hW.1.obj hv hso
  obtain ⟨q0, hq0⟩ := va_pl_get (X := []) (f := σ) hL
  obtain ⟨qk, hqk⟩ := va_pl_get (X := []) (f := σ) hLv
  have hq0' := hq0
  rw [List.nil_append, e0] at hq0
  rw [List.nil_append, ev] at hqk
  have hst := fun (e9 : va_E) => va_pl_set (X := []) (e := e9) hW.1.2.1 hL hq0'
  simp only [List.nil_append] at hst
  refine va_astq (r := (C, T, N)) hE.1.1 hE.1.2.1 hE.2.1 hW.1.1 hW.1.2.1 hW.2.2 q0 ci qk cj hq0 hty hqk hc.1 hin hdg fun H1 locs1 h1 h2 h3 => ?_
  rw [hst] at h1 h2
  refine kk H1 locs1 _ (q_pQ.of e0) ⟨hW.1.up hL ?_ h1 h2, hW.2.1.up (by rw [ht]; exact hts), h3⟩
  rw [ht]
  refine ⟨fun o h => ?_, fun o h => ?_, fun o h => ?_⟩
  · rw [(q_sR_O hs).1] at h; cases h
  · rw [(q_sR_O hs).2] at h; cases h
  · cases hs.symm.trans h
    refine ⟨_, rfl, fun j hj => ?_⟩
    by_cases e9 : j = i.toNatClampNeg
    · subst e9
      exact ⟨v, by rw [va_up_self], by rw [hv]; exact hlo, by rw [hv]; exact hhi⟩
    · obtain ⟨r, hr, g1, g2⟩ := hq j hj
      exact ⟨r, by rw [va_up_ne _ _ e9]; exact hr, g1, g2⟩
end QAA
theorem q_ghr {G : q_G} {ts : List Nat} {σ0 σ : q_S} {H0 H : Heap} {locs : List Loc} {a t ci : Nat} {fs : List (Nat × Int × Int)} (hW : q_Wd G ts σ0 H0 σ H locs) (ht : q_T G a = t) (hs : q_sO t = some (ci, fs)) (k : Nat) {lo hi : Int} (hf : fs[k]? = some (1, lo, hi)) : ∃ r : Nat, q_R σ a k = r ∧ lo ≤ (q_T G r : Int) ∧ (q_T G r : Int) ≤ hi := by
  obtain ⟨hL, vs, e0, hlen, hv⟩ := hW.1.obj ht hs
  obtain ⟨v, hv1, hv2⟩ := hv k _ hf
  obtain ⟨r, rfl, hx1, hx2⟩ := hv2.2 rfl
  exact ⟨r, by simp only [q_R, e0, hv1]; rfl, hx1, hx2⟩
theorem q_ghi {G : q_G} {ts : List Nat} {σ0 σ : q_S} {H0 H : Heap} {locs : List Loc} {a t ci : Nat} {fs : List (Nat × Int × Int)} (hW : q_Wd G ts σ0 H0 σ H locs) (ht : q_T G a = t) (hs : q_sO t = some (ci, fs)) (k : Nat) {lo hi : Int} (hf : fs[k]? = some (0, lo, hi)) : ∃ x : Int32, q_I σ a k = x ∧ q_V lo hi x := by
  obtain ⟨hL, vs, e0, hlen, hv⟩ := hW.1.obj ht hs
  obtain ⟨v, hv1, hv2⟩ := hv k _ hf
  obtain ⟨x, rfl, hx⟩ := hv2.1 rfl
  exact ⟨x, by simp only [q_I, e0, hv1]; rfl, hx⟩
theorem q_hm {i j n : Int32} (e : j.toInt = i.toInt + 1) (h : i < n) : (n.toInt - j.toInt).toNat < (n.toInt - i.toInt).toNat := by
  have := Int32.lt_iff_toInt_lt.mp h
  omega
