/-! the law's first state -/
abbrev kF : List Cond := flatC (Jvm.Cond.and given_1 narrow_1)
def ktm (i : Nat) : Term := .string ((q_tx.getD i ("", 0, "")).1) ((q_tx.getD i ("", 0, "")).2.1)
theorem kN_N : ∀ w ∈ q_nN, Cond.not (.castable w.1 w.2) ∈ kF := by decide +kernel
theorem kN_ex : ∀ i : Nat, i < 9 → Cond.exactly (ktm i) "java/lang/String" ∈ kF := by decide +kernel
theorem kN_co : ∀ i : Nat, i < 9 → Cond.eq (.field (ktm i) "java/lang/String" "coder" "B") (.int 0) ∈ kF := by decide +kernel
theorem kN_ar : ∀ i : Nat, i < 9 → Cond.arrayOf (.field (ktm i) "java/lang/String" "value" "[B") .byte ∈ kF := by decide +kernel
theorem kN_le : ∀ i : Nat, i < 9 → Cond.eq (.length (.field (ktm i) "java/lang/String" "value" "[B")) (.int (Int32.ofNat (q_len.getD i 0))) ∈ kF := by decide +kernel
theorem kN_el : ∀ i : Nat, i < 9 → ∀ j : Nat, j < q_len.getD i 0 → Cond.eq (.elem (.field (ktm i) "java/lang/String" "value" "[B") (.int (Int32.ofNat j))) (.int ((q_byt.getD i []).getD j 0)) ∈ kF := by decide +kernel
theorem kN_ne : ∀ i : Nat, i < 9 → ∀ j : Nat, j < 9 → i ≠ j → (Cond.not (Cond.eq (ktm i) (ktm j)) ∈ kF ∨ Cond.not (Cond.eq (ktm j) (ktm i)) ∈ kF) := by decide +kernel
theorem kN_z1 : Cond.eq (.static "java/lang/String" "COMPACT_STRINGS" "Z") (.int 1) ∈ kF := by decide +kernel
theorem kN_z2 : Cond.isRef (.static "jdk/internal/util/Preconditions" "SIOOBE_FORMATTER" "Ljava/util/function/BiFunction;") ∈ kF := by decide +kernel
section QS0
variable {s : State} {b : Nat}
theorem k_kn (htw : ∀ w ∈ wsL_law, w.before #[Value.ref b] s = true) (k : Nat) : ∃ D : ClassId × (Nat → Nat), ∀ q : vw_C, vwCl[k]? = some q → u_Kn s q.1 q.2.1 q.2.2 D.1 D.2 := by
  match k with
  | 0 => obtain ⟨c, i, h⟩ := u_known htw inlX0 (htw _ wl_23); exact ⟨(c, i), fun q hq => by cases hq; exact h⟩
  | 1 => obtain ⟨c, i, h⟩ := u_known htw inlX1 (htw _ wl_84); exact ⟨(c, i), fun q hq => by cases hq; exact h⟩
  | 2 => obtain ⟨c, i, h⟩ := u_known htw inlX2 (htw _ wl_31); exact ⟨(c, i), fun q hq => by cases hq; exact h⟩
  | 3 => obtain ⟨c, i, h⟩ := u_known htw inlX3 (htw _ wl_20); exact ⟨(c, i), fun q hq => by cases hq; exact h⟩
  | 4 => obtain ⟨c, i, h⟩ := u_known htw inlX5 (htw _ wl_57); exact ⟨(c, i), fun q hq => by cases hq; exact h⟩
  | 5 => obtain ⟨c, i, h⟩ := u_known htw inlX6 (htw _ wl_42); exact ⟨(c, i), fun q hq => by cases hq; exact h⟩
  | 6 => obtain ⟨c, i, h⟩ := u_known htw inlX7 (htw _ wl_38); exact ⟨(c, i), fun q hq => by cases hq; exact h⟩
  | 7 => obtain ⟨c, i, h⟩ := u_known htw inlX8 (htw _ wl_27); exact ⟨(c, i), fun q hq => by cases hq; exact h⟩
  | 8 => obtain ⟨c, i, h⟩ := u_known htw inlX9 (htw _ wl_17); exact ⟨(c, i), fun q hq => by cases hq; exact h⟩
  | 9 => obtain ⟨c, i, h⟩ := u_known htw inlX10 (htw _ wl_13); exact ⟨(c, i), fun q hq => by cases hq; exact h⟩
  | 10 => obtain ⟨c, i, h⟩ := u_known htw inlX11 (htw _ wl_1); exact ⟨(c, i), fun q hq => by cases hq; exact h⟩
  | 11 => obtain ⟨c, i, h⟩ := u_known htw inlX12 (htw _ wl_4); exact ⟨(c, i), fun q hq => by cases hq; exact h⟩
  | k + 12 => exact ⟨(0, fun _ => 0), fun q hq => by simp [vwCl] at hq⟩
theorem k_ac {t : FieldType} (h : (Cond.arrayClass t).before #[Value.ref b] s = true) (ho : ∀ C, t ≠ .object C) : ∃ c : ClassId, ArrOfT s c t ∧ va_RA s c t := by
  obtain ⟨c, k, comp, h1, h2, h3⟩ := Cond.arrayClass_spec h
  refine ⟨c, fun N z => ⟨(fun q hq => by cases hq), k, h2, comp, h3⟩, ?_⟩
  cases t <;> first | exact h1 | exact absurd rfl (ho _)
theorem k_ao {C : String} (h : (Cond.arrayOver (.object C)).before #[Value.ref b] s = true) : ∃ c : ClassId, ArrOfT s c (.object C) ∧ va_RA s c (.object C) := by
  obtain ⟨comp, c, k, h1, h2, h3, h4, h5⟩ := Cond.arrayOver_spec h
  exact ⟨c, fun N z => ⟨(fun q hq => by cases hq), k, h3, comp, h4⟩, k, comp, h3, h4, h1, h5⟩
theorem k_aa (h : (Cond.arrayOver (.array .int)).before #[Value.ref b] s = true) : ∃ c : ClassId, ArrOfT s c (.array .int) ∧ va_RA s c (.array .int) := by
  obtain ⟨comp, c, k, h1, h2, h3, h4, h5⟩ := arrayOverA_spec h
  exact ⟨c, fun N z => ⟨(fun q hq => by cases hq), k, h3, comp, h4⟩, h5⟩
theorem k_arr (hts : ∀ w ∈ lw_tbl, w.before #[Value.ref b] s = true) : ∃ cc : Nat → ClassId, ∀ (k : Nat) (q : ClassId × FieldType), (q_tys cc)[k]? = some q → ArrOfT s q.1 q.2 ∧ va_RA s q.1 q.2 := by
  have htw : ∀ w ∈ wsL_law, w.before #[Value.ref b] s = true := fun w h => hts w (kt_all w h)
  have ho : ∀ C, C ∈ q_nO → (Cond.arrayOver (.object C)).before #[Value.ref b] s = true := fun C hC => hts _ (kt_O _ (List.mem_map.mpr ⟨C, hC, rfl⟩))
  obtain ⟨c0, h0⟩ := k_ac (htw _ wl_45) (fun C h => by cases h)
  obtain ⟨c1, h1⟩ := k_ac (htw _ wl_50) (fun C h => by cases h)
  obtain ⟨c2, h2⟩ := k_ac (htw _ wl_76) (fun C h => by cases h)
  obtain ⟨c3, h3⟩ := k_ao (ho "CloudLaundry$Cloud" (by decide +kernel))
  obtain ⟨c4, h4⟩ := k_ao (ho "CloudLaundry$Day" (by decide +kernel))
  obtain ⟨c5, h5⟩ := k_ao (ho "CloudLaundry$Kind" (by decide +kernel))
  obtain ⟨c6, h6⟩ := k_ao (ho "CloudLaundry$Line" (by decide +kernel))
  obtain ⟨c7, h7⟩ := k_ao (ho "CloudLaundry$Text" (by decide +kernel))
  obtain ⟨c8, h8⟩ := k_aa (hts _ kt_A)
  refine ⟨fun i => [c0, c1, c2, c3, c4, c5, c6, c7, c8].getD i 0, fun k q hq => ?_⟩
  match k, hq with
  | 0, hq => cases hq; exact h0
  | 1, hq => cases hq; exact h1
  | 2, hq => cases hq; exact h2
  | 3, hq => cases hq; exact h3
  | 4, hq => cases hq; exact h4
  | 5, hq => cases hq; exact h5
  | 6, hq => cases hq; exact h6
  | 7, hq => cases hq; exact h7
  | 8, hq => cases hq; exact h8
  | k + 9, hq => simp [q_tys] at hq
theorem k_nest (hts : ∀ w ∈ lw_tbl, w.before #[Value.ref b] s = true) (hs : ∀ w ∈ kF, w.before #[Value.ref b] s = true) : q_nest s :=
  ⟨fun w hw => va_Nw.of rfl (hts _ (kt_F _ (List.mem_map.mpr ⟨w, hw, rfl⟩))), fun w hw => va_Nw.of rfl (hts _ (kt_M _ (List.mem_map.mpr ⟨w, hw, rfl⟩))), fun w hw => va_Nw.of rfl (hts _ (kt_D _ (List.mem_map.mpr ⟨w, hw, rfl⟩))), fun w hw => va_Nw.of rfl (hts _ (kt_C _ (List.mem_map.mpr ⟨w, hw, rfl⟩))), fun w hw => va_Nc.of (hs _ (kN_N w hw)), fun w hw => va_AO.of (hts _ (kt_O _ (List.mem_map.mpr ⟨w, hw, rfl⟩)))⟩
/-- all that every later state knows -/
theorem k_start (hts : ∀ w ∈ lw_tbl, w.before #[Value.ref b] s = true) (hgv : (Jvm.Cond.and given_1 narrow_1).before #[Value.ref b] s = true) : ∃ G : q_G, q_B G = s.heap.size ∧ q_L G = [] ∧ (∀ a, q_T G a = 0) ∧ q_K G s := by
  have htw : ∀ w ∈ wsL_law, w.before #[Value.ref b] s = true := fun w h => hts w (kt_all w h)
  have hs : ∀ w ∈ kF, w.before #[Value.ref b] s = true := flat_of_before _ hgv
  obtain ⟨D, hD⟩ := Classical.axiomOfChoice (k_kn htw)
  obtain ⟨cc, hcc⟩ := k_arr hts
  have hA : ∀ a : Nat, a < s.heap.size → ¬ (fun q : Nat => s.heap.size ≤ q) a := fun a h h2 => absurd h (Nat.not_lt.mpr h2)
  obtain ⟨aK, aV, hS, hK⟩ := vk_Sof (N := 9) (tm := ktm) (len := q_len) (byt := q_byt) (A := fun q : Nat => s.heap.size ≤ q) (by decide) (fun i hi => hs _ (kN_ex i hi)) (fun i hi => hs _ (kN_co i hi)) (fun i hi => hs _ (kN_ar i hi)) (fun i hi => hs _ (kN_le i hi)) (fun i hi j hj => hs _ (kN_el i hi j hj)) (fun i j hi hj h => (kN_ne i hi j hj h).imp (fun z => hs _ z) (fun z => hs _ z)) hA
  refine ⟨((fun k => (D k).1, fun k => (D k).2), cc, s.heap.size, [], fun _ => 0, aK, aV), rfl, rfl, fun _ => rfl, ⟨fun c q hq => hD c q hq, hcc⟩, k_nest hts hs, hS, fun i q hq => ?_, va_Zof (hts _ kt_s1) (hts _ kt_s2) (va_eqt (hs _ kN_z1)) hA, va_Zqof (hts _ kt_s3) (hts _ kt_s4) (hs _ kN_z2) hA⟩
  have hi : i < 9 := (List.getElem?_eq_some_iff.mp hq).1
  have hg : q_tx.getD i ("", 0, "") = q := by rw [List.getD_eq_getElem?_getD, hq]; rfl
  have hm : q ∈ q_tx := List.mem_of_getElem? hq
  refine vk_R.of (A := #[Value.ref b]) (hts _ (kt_T _ (List.mem_map.mpr ⟨q, hm, rfl⟩))) ?_
  have := hK i hi
  unfold ktm at this
  rw [hg] at this
  exact this
end QS0
