/-! the law: one call on a new object, by each method -/
def q_AT : List Nat := List.range 68
abbrev q_FF : List (Nat × Nat) := [(7, 1), (7, 4), (7, 6), (7, 7), (7, 8), (13, 1), (23, 0), (26, 10), (26, 17), (40, 0), (40, 5), (40, 8), (40, 7), (40, 11), (40, 27), (40, 35)]
abbrev q_FA : List (Nat × Nat × Nat) := [(12, 0, 6), (28, 0, 7), (32, 0, 2), (46, 0, 54), (46, 57, 58), (46, 58, 59), (46, 59, 101), (55, 0, 2), (58, 0, 7), (63, 0, 3)]
def k_ix (i : Int32) (L : Nat) : Prop := 0 ≤ i.toInt ∧ i.toInt + 6 ≤ (L : Int) ∧ L ≤ 3072
theorem k_ixi {i : Int32} {L : Nat} (h : k_ix i L) (k : Int32) (h0 : 0 ≤ k.toInt) (h6 : k.toInt < 6) : vp_in (i + k) L := by
  obtain ⟨a, b, c⟩ := h
  have e : (i + k).toInt = i.toInt + k.toInt := q_addT (a := 0) (b := 3072) (c := 0) (d := 6) ⟨a, by omega⟩ ⟨h0, by omega⟩ (by decide) (by decide)
  exact vp_in_iff.mpr ⟨by omega, by omega⟩
section LAW
variable {p : Program} {e : Env} {s : State} {m : MethodId} {below : List Frame} {meth : Method} {c : Code} {H : Heap} {locs : List Loc} {Q : State → Prop} {G : q_G} {σ σ0 : q_S} {b L x1 x2 : Nat} {xs : Nat → Int32} {i : Int32} {ls : Array Slot}
theorem kw_L_13 : q_wV RL RX11 13 yX11_write cX11_write 2 (some .int) 1 := ⟨q_goodV wl_157 wl_158 wl_159 wl_2 wl_160, rfl, by decide, by decide, by decide +kernel⟩
theorem kw_L_17 : q_wV RL RX12 17 yX12_write cX12_write 2 (some .int) 1 := ⟨q_goodV wl_166 wl_167 wl_168 wl_5 wl_169, rfl, by decide, by decide, by decide +kernel⟩
theorem kw_L_18 : q_wV RL RX11 18 yX11_erase cX11_erase 2 (some .int) 0 := ⟨q_goodV wl_175 wl_176 wl_177 wl_2 wl_178, rfl, by decide, by decide, by decide +kernel⟩
theorem kw_L_22 : q_wV RL RX12 22 yX12_erase cX12_erase 2 (some .int) 0 := ⟨q_goodV wl_179 wl_180 wl_181 wl_5 wl_182, rfl, by decide, by decide, by decide +kernel⟩
theorem kw_L_23 : q_wV RL RX11 23 yX11_fault cX11_fault 1 (some .int) 0 := ⟨q_goodV wl_183 wl_184 wl_185 wl_2 wl_186, rfl, by decide, by decide, by decide +kernel⟩
theorem kw_L_26 : q_wV RL RX12 26 yX12_fault cX12_fault 1 (some .int) 0 := ⟨q_goodV wl_342 wl_343 wl_344 wl_5 wl_345, rfl, by decide, by decide, by decide +kernel⟩
theorem kw_L_27 : q_wV RL RX11 27 yX11_summer cX11_summer 2 (some .int) 0 := ⟨q_goodV wl_430 wl_431 wl_432 wl_2 wl_433, rfl, by decide, by decide, by decide +kernel⟩
theorem kw_L_30 : q_wV RL RX12 30 yX12_summer cX12_summer 2 (some .int) 0 := ⟨q_goodV wl_437 wl_438 wl_439 wl_5 wl_440, rfl, by decide, by decide, by decide +kernel⟩
theorem kw_L_31 : q_wV RL RX11 31 yX11_cloud cX11_cloud 4 (some .int) 2 := ⟨q_goodV wl_447 wl_448 wl_449 wl_2 wl_450, rfl, by decide, by decide, by decide +kernel⟩
theorem kw_L_35 : q_wV RL RX12 35 yX12_cloud cX12_cloud 3 (some .int) 2 := ⟨q_goodV wl_501 wl_502 wl_503 wl_5 wl_504, rfl, by decide, by decide, by decide +kernel⟩
theorem kw_L_36 : q_wV RL RX11 36 yX11_deep cX11_deep 4 (some .int) 2 := ⟨q_goodV wl_524 wl_525 wl_526 wl_2 wl_527, rfl, by decide, by decide, by decide +kernel⟩
theorem kw_L_39 : q_wV RL RX12 39 yX12_deep cX12_deep 3 (some .int) 2 := ⟨q_goodV wl_528 wl_529 wl_530 wl_5 wl_531, rfl, by decide, by decide, by decide +kernel⟩
theorem kw_L_40 : q_wV RL RX11 40 yX11_washer cX11_washer 3 (some .int) 2 := ⟨q_goodV wl_533 wl_534 wl_535 wl_2 wl_536, rfl, by decide, by decide, by decide +kernel⟩
theorem kw_L_43 : q_wV RL RX12 43 yX12_washer cX12_washer 3 (some .int) 2 := ⟨q_goodV wl_541 wl_542 wl_543 wl_5 wl_544, rfl, by decide, by decide, by decide +kernel⟩
theorem kw_L_44 : q_wV RL RX11 44 yX11_water cX11_water 3 (some .int) 2 := ⟨q_goodV wl_549 wl_550 wl_551 wl_2 wl_552, rfl, by decide, by decide, by decide +kernel⟩
theorem kw_L_47 : q_wV RL RX12 47 yX12_water cX12_water 3 (some .int) 2 := ⟨q_goodV wl_553 wl_554 wl_555 wl_5 wl_556, rfl, by decide, by decide, by decide +kernel⟩
theorem kw_L_48 : q_wV RL RX11 48 yX11_as cX11_as 4 (some .int) 2 := ⟨q_goodV wl_558 wl_559 wl_560 wl_2 wl_561, rfl, by decide, by decide, by decide +kernel⟩
theorem kw_L_51 : q_wV RL RX12 51 yX12_as cX12_as 5 (some .int) 2 := ⟨q_goodV wl_587 wl_588 wl_589 wl_5 wl_590, rfl, by decide, by decide, by decide +kernel⟩
theorem kw_L_52 : q_wV RL RX11 52 yX11_wash cX11_wash 4 (some .int) 2 := ⟨q_goodV wl_595 wl_596 wl_597 wl_2 wl_598, rfl, by decide, by decide, by decide +kernel⟩
theorem kw_L_55 : q_wV RL RX12 55 yX12_wash cX12_wash 3 (some .int) 2 := ⟨q_goodV wl_604 wl_605 wl_606 wl_5 wl_607, rfl, by decide, by decide, by decide +kernel⟩
theorem kw_L_56 : q_wV RL RX11 56 yX11_hang cX11_hang 4 (some .int) 1 := ⟨q_goodV wl_616 wl_617 wl_618 wl_2 wl_619, rfl, by decide, by decide, by decide +kernel⟩
theorem kw_L_59 : q_wV RL RX12 59 yX12_hang cX12_hang 3 (some .int) 1 := ⟨q_goodV wl_620 wl_621 wl_622 wl_5 wl_623, rfl, by decide, by decide, by decide +kernel⟩
theorem kw_L_60 : q_wV RL RX11 60 yX11_again cX11_again 4 (some .int) 1 := ⟨q_goodV wl_624 wl_625 wl_626 wl_2 wl_627, rfl, by decide, by decide, by decide +kernel⟩
theorem kw_L_63 : q_wV RL RX12 63 yX12_again cX12_again 3 (some .int) 1 := ⟨q_goodV wl_628 wl_629 wl_630 wl_5 wl_631, rfl, by decide, by decide, by decide +kernel⟩
theorem kw_L_64 : q_wV RL RX11 64 yX11_send cX11_send 3 (some .int) 1 := ⟨q_goodV wl_632 wl_633 wl_634 wl_2 wl_635, rfl, by decide, by decide, by decide +kernel⟩
theorem kw_L_67 : q_wV RL RX12 67 yX12_send cX12_send 2 (some .int) 1 := ⟨q_goodV wl_637 wl_638 wl_639 wl_5 wl_640, rfl, by decide, by decide, by decide +kernel⟩
theorem kw_L_68 : q_wV RL RX11 68 yX11_soap cX11_soap 2 (some .int) 1 := ⟨q_goodV wl_641 wl_642 wl_643 wl_2 wl_644, rfl, by decide, by decide, by decide +kernel⟩
theorem kw_L_71 : q_wV RL RX12 71 yX12_soap cX12_soap 2 (some .int) 1 := ⟨q_goodV wl_645 wl_646 wl_647 wl_5 wl_648, rfl, by decide, by decide, by decide +kernel⟩
theorem kw_L_72 : q_wV RL RX11 72 yX11_hour cX11_hour 3 (some .int) 1 := ⟨q_goodV wl_650 wl_651 wl_652 wl_2 wl_653, rfl, by decide, by decide, by decide +kernel⟩
theorem kw_L_75 : q_wV RL RX12 75 yX12_hour cX12_hour 3 (some .int) 1 := ⟨q_goodV wl_692 wl_693 wl_694 wl_5 wl_695, rfl, by decide, by decide, by decide +kernel⟩
theorem kw_L_76 : q_wV RL RX11 76 yX11_undo cX11_undo 1 (some .int) 0 := ⟨q_goodV wl_716 wl_717 wl_718 wl_2 wl_719, rfl, by decide, by decide, by decide +kernel⟩
theorem kw_L_79 : q_wV RL RX12 79 yX12_undo cX12_undo 2 (some .int) 0 := ⟨q_goodV wl_720 wl_721 wl_722 wl_5 wl_723, rfl, by decide, by decide, by decide +kernel⟩
theorem kw_L_80 : q_wV RL RX11 80 yX11_keep cX11_keep 2 (some .int) 1 := ⟨q_goodV wl_724 wl_725 wl_726 wl_2 wl_727, rfl, by decide, by decide, by decide +kernel⟩
theorem kw_L_83 : q_wV RL RX12 83 yX12_keep cX12_keep 3 (some .int) 1 := ⟨q_goodV wl_733 wl_734 wl_735 wl_5 wl_736, rfl, by decide, by decide, by decide +kernel⟩
theorem kw_L_84 : q_wV RL RX11 84 yX11_back cX11_back 2 (some .int) 1 := ⟨q_goodV wl_737 wl_738 wl_739 wl_2 wl_740, rfl, by decide, by decide, by decide +kernel⟩
theorem kw_L_87 : q_wV RL RX12 87 yX12_back cX12_back 3 (some .int) 1 := ⟨q_goodV wl_741 wl_742 wl_743 wl_5 wl_744, rfl, by decide, by decide, by decide +kernel⟩
theorem kw_L_88 : q_wV RL RX11 88 yX11_takes cX11_takes 4 (some .int) 2 := ⟨q_goodV wl_745 wl_746 wl_747 wl_2 wl_748, rfl, by decide, by decide, by decide +kernel⟩
theorem kw_L_91 : q_wV RL RX12 91 yX12_takes cX12_takes 3 (some .int) 2 := ⟨q_goodV wl_755 wl_756 wl_757 wl_5 wl_758, rfl, by decide, by decide, by decide +kernel⟩
theorem kw_L_92 : q_wV RL RX11 92 yX11_later cX11_later 4 (some .int) 2 := ⟨q_goodV wl_772 wl_773 wl_774 wl_2 wl_775, rfl, by decide, by decide, by decide +kernel⟩
theorem kw_L_95 : q_wV RL RX12 95 yX12_later cX12_later 4 (some .int) 2 := ⟨q_goodV wl_780 wl_781 wl_782 wl_5 wl_783, rfl, by decide, by decide, by decide +kernel⟩
theorem kw_L_96 : q_wV RL RX11 96 yX11_stands cX11_stands 6 (some .int) 2 := ⟨q_goodV wl_792 wl_793 wl_794 wl_2 wl_795, rfl, by decide, by decide, by decide +kernel⟩
theorem kw_L_99 : q_wV RL RX12 99 yX12_stands cX12_stands 6 (some .int) 2 := ⟨q_goodV wl_811 wl_812 wl_813 wl_5 wl_814, rfl, by decide, by decide, by decide +kernel⟩
theorem kw_L_100 : q_wV RL RX11 100 yX11_plan cX11_plan 2 (some .int) 1 := ⟨q_goodV wl_826 wl_827 wl_828 wl_2 wl_829, rfl, by decide, by decide, by decide +kernel⟩
theorem kw_L_103 : q_wV RL RX12 103 yX12_plan cX12_plan 4 (some .int) 1 := ⟨q_goodV wl_867 wl_868 wl_869 wl_5 wl_870, rfl, by decide, by decide, by decide +kernel⟩
theorem kw_L_104 : q_wV RL RX11 104 yX11_needed cX11_needed 4 (some .int) 1 := ⟨q_goodV wl_891 wl_892 wl_893 wl_2 wl_894, rfl, by decide, by decide, by decide +kernel⟩
theorem kw_L_107 : q_wV RL RX12 107 yX12_needed cX12_needed 4 (some .int) 1 := ⟨q_goodV wl_895 wl_896 wl_897 wl_5 wl_898, rfl, by decide, by decide, by decide +kernel⟩
theorem kw_L_108 : q_wV RL RX11 108 yX11_seen cX11_seen 4 (some .int) 3 := ⟨q_goodV wl_899 wl_900 wl_901 wl_2 wl_902, rfl, by decide, by decide, by decide +kernel⟩
theorem kw_L_112 : q_wV RL RX12 112 yX12_seen cX12_seen 4 (some .int) 3 := ⟨q_goodV wl_903 wl_904 wl_905 wl_5 wl_906, rfl, by decide, by decide, by decide +kernel⟩
theorem kw_L_113 : q_wV RL RX11 113 yX11_forget cX11_forget 2 (some .int) 0 := ⟨q_goodV wl_908 wl_909 wl_910 wl_2 wl_911, rfl, by decide, by decide, by decide +kernel⟩
theorem kw_L_116 : q_wV RL RX12 116 yX12_forget cX12_forget 2 (some .int) 0 := ⟨q_goodV wl_912 wl_913 wl_914 wl_5 wl_915, rfl, by decide, by decide, by decide +kernel⟩
theorem kw_L_117 : q_wV RL RX11 117 yX11_kinds cX11_kinds 5 (some .int) 1 := ⟨q_goodV wl_916 wl_917 wl_918 wl_2 wl_919, rfl, by decide, by decide, by decide +kernel⟩
theorem kw_L_120 : q_wV RL RX12 120 yX12_kinds cX12_kinds 7 (some .int) 1 := ⟨q_goodV wl_924 wl_925 wl_926 wl_5 wl_927, rfl, by decide, by decide, by decide +kernel⟩
theorem kw_L_121 : q_wV RL RX11 121 yX11_lightning cX11_lightning 12 (some .int) 4 := ⟨q_goodV wl_928 wl_929 wl_930 wl_2 wl_931, rfl, by decide, by decide, by decide +kernel⟩
theorem kw_L_125 : q_wV RL RX12 125 yX12_lightning cX12_lightning 11 (some .int) 4 := ⟨q_goodV wl_941 wl_942 wl_943 wl_5 wl_944, rfl, by decide, by decide, by decide +kernel⟩
theorem kw_L_126 : q_wV RL RX11 126 yX11_line cX11_line 5 (some .int) 3 := ⟨q_goodV wl_957 wl_958 wl_959 wl_2 wl_960, rfl, by decide, by decide, by decide +kernel⟩
theorem kw_L_129 : q_wV RL RX12 129 yX12_line cX12_line 5 (some .int) 3 := ⟨q_goodV wl_973 wl_974 wl_975 wl_5 wl_976, rfl, by decide, by decide, by decide +kernel⟩
theorem kw_L_130 : q_wV RL RX11 130 yX11_pin cX11_pin 7 (some .int) 4 := ⟨q_goodV wl_981 wl_982 wl_983 wl_2 wl_984, rfl, by decide, by decide, by decide +kernel⟩
theorem kw_L_133 : q_wV RL RX12 133 yX12_pin cX12_pin 6 (some .int) 4 := ⟨q_goodV wl_1001 wl_1002 wl_1003 wl_5 wl_1004, rfl, by decide, by decide, by decide +kernel⟩
theorem kw_L_134 : q_wV RL RX11 134 yX11_peg cX11_peg 6 (some .int) 3 := ⟨q_goodV wl_1011 wl_1012 wl_1013 wl_2 wl_1014, rfl, by decide, by decide, by decide +kernel⟩
theorem kw_L_137 : q_wV RL RX12 137 yX12_peg cX12_peg 6 (some .int) 3 := ⟨q_goodV wl_1015 wl_1016 wl_1017 wl_5 wl_1018, rfl, by decide, by decide, by decide +kernel⟩
theorem kw_L_138 : q_wV RL RX11 138 yX11_move cX11_move 9 (some .int) 5 := ⟨q_goodV wl_1019 wl_1020 wl_1021 wl_2 wl_1022, rfl, by decide, by decide, by decide +kernel⟩
theorem kw_L_142 : q_wV RL RX12 142 yX12_move cX12_move 7 (some .int) 5 := ⟨q_goodV wl_1028 wl_1029 wl_1030 wl_5 wl_1031, rfl, by decide, by decide, by decide +kernel⟩
theorem kw_L_143 : q_wV RL RX11 143 yX11_drop cX11_drop 3 (some .int) 1 := ⟨q_goodV wl_1032 wl_1033 wl_1034 wl_2 wl_1035, rfl, by decide, by decide, by decide +kernel⟩
theorem kw_L_146 : q_wV RL RX12 146 yX12_drop cX12_drop 4 (some .int) 1 := ⟨q_goodV wl_1040 wl_1041 wl_1042 wl_5 wl_1043, rfl, by decide, by decide, by decide +kernel⟩
theorem kw_L_147 : q_wV RL RX11 147 yX11_sum cX11_sum 6 (some .int) 1 := ⟨q_goodV wl_1044 wl_1045 wl_1046 wl_2 wl_1047, rfl, by decide, by decide, by decide +kernel⟩
theorem kw_L_150 : q_wV RL RX12 150 yX12_sum cX12_sum 5 (some .int) 1 := ⟨q_goodV wl_1049 wl_1050 wl_1051 wl_5 wl_1052, rfl, by decide, by decide, by decide +kernel⟩
theorem kw_L_151 : q_wV RL RX11 151 yX11_count cX11_count 2 (some .int) 1 := ⟨q_goodV wl_1054 wl_1055 wl_1056 wl_2 wl_1057, rfl, by decide, by decide, by decide +kernel⟩
theorem kw_L_154 : q_wV RL RX12 154 yX12_count cX12_count 2 (some .int) 1 := ⟨q_goodV wl_1070 wl_1071 wl_1072 wl_5 wl_1073, rfl, by decide, by decide, by decide +kernel⟩
set_option maxHeartbeats 4000000 in
set_option maxRecDepth 100000 in
theorem law_k0 (l : Launch) (hE : q_E G p s m #[Value.ref b] c cL_law 4 RL) (hW : q_Wd G q_AT σ0 s.heap σ H locs) (hX : va_X b L xs s s.heap) (hbl : b < s.heap.size) (hbA : ¬ q_N G b) (h1 : q_T G x1 = 26) (h2 : q_T G x2 = 40) (hi : k_ix i L) (hz : q_fr G q_FF q_FA σ) (hl : lv_has ls 4 [(3, .int i), (2, .ref x2), (1, .ref x1), (0, .ref b)])
    (kk : ∀ (σ1 : q_S) (H1 : Heap) (locs1 : List Loc), q_Wd G q_AT σ0 s.heap σ1 H1 locs1 → W p l e room_1 s m #[Value.ref b] below meth c H1 locs1 407 4557 Q (F0 m 1166 ls [])) : W p l e room_1 s m #[Value.ref b] below meth c H locs 407 4557 Q (F0 m 184 ls []) := by
  have hx := hE.1.1
  have hb := hE.1.2.1
  refine lv_aload_n hx hb dL_law_184 rfl (lv_at hl 2 rfl) ?_
  refine lv_aload_n hx hb dL_law_185 rfl (lv_at hl 3 rfl) ?_
  refine lv_iload_n hx hb dL_law_186 rfl (lv_at hl 0 rfl) ?_
  refine lv_iconst (v := 1) hx hb dL_law_187 (by decide) ?_
  refine lv_iadd hx hb dL_law_188 ?_
  refine va_sld hx hb hX hbl hbA hW.2.2 (k_ixi hi 1 (by decide) (by decide)) dL_law_189 ?_
  refine q_goi hW (q_runV (As := [.int (xs (i + 1).toNatClampNeg)]) (rest := []) hE hW (c_X11_write_tz l G σ x1 h1 (xs (i + 1).toNatClampNeg) (q_fr.sub hz (by decide) (by decide))) kw_L_13 (q_recv hE hW h1 rfl q_k11) rfl hl.1 rfl (Nat.le_of_ble_eq_true rfl) dL_law_190 ⟨by decide, by decide⟩ ⟨by decide, by decide⟩) (by decide) (fun kx1 ks2 H locs kp3 kf4 hW => ?_)
  refine lv_aload_n hx hb dL_law_193 rfl (lv_at hl 1 rfl) ?_
  refine lv_aload_n hx hb dL_law_194 rfl (lv_at hl 3 rfl) ?_
  refine lv_iload_n hx hb dL_law_195 rfl (lv_at hl 0 rfl) ?_
  refine lv_iconst (v := 1) hx hb dL_law_196 (by decide) ?_
  refine lv_iadd hx hb dL_law_197 ?_
  refine va_sld hx hb hX hbl hbA hW.2.2 (k_ixi hi 1 (by decide) (by decide)) dL_law_198 ?_
  refine q_goi hW (q_runV (As := [.int (xs (i + 1).toNatClampNeg)]) (rest := [.int kx1]) hE hW (c_X12_write_tz l G ks2 x2 h2 (xs (i + 1).toNatClampNeg) (q_fr.sub (q_fr.fr (q_fr.sub (F2 := [(40, 0), (40, 5), (40, 8), (40, 7), (40, 11), (40, 27), (40, 35)]) (A2 := [(46, 0, 54), (46, 57, 58), (46, 58, 59), (46, 59, 101), (55, 0, 2), (58, 0, 7), (63, 0, 3)]) hz (by decide) (by decide)) kf4 (by decide) (by decide)) (by decide) (by decide))) kw_L_17 (q_recv hE hW h2 rfl q_k12) rfl hl.1 rfl (Nat.le_of_ble_eq_true rfl) dL_law_199 ⟨by decide, by decide⟩ ⟨by decide, by decide⟩) (by decide) (fun kx5 ks6 H locs kp7 kf8 hW => ?_)
  refine lv_icmp_eq (tgt := 1166) hx hb dL_law_202 (by decide) (fun _ => ?_) (fun q_h => absurd (kp3.2.trans kp7.2.symm) q_h)
  exact kk _ _ _ hW
set_option maxHeartbeats 4000000 in
set_option maxRecDepth 100000 in
theorem law_k1 (l : Launch) (hE : q_E G p s m #[Value.ref b] c cL_law 4 RL) (hW : q_Wd G q_AT σ0 s.heap σ H locs) (hX : va_X b L xs s s.heap) (hbl : b < s.heap.size) (hbA : ¬ q_N G b) (h1 : q_T G x1 = 26) (h2 : q_T G x2 = 40) (hi : k_ix i L) (hz : q_fr G q_FF q_FA σ) (hl : lv_has ls 4 [(3, .int i), (2, .ref x2), (1, .ref x1), (0, .ref b)])
    (kk : ∀ (σ1 : q_S) (H1 : Heap) (locs1 : List Loc), q_Wd G q_AT σ0 s.heap σ1 H1 locs1 → W p l e room_1 s m #[Value.ref b] below meth c H1 locs1 407 4557 Q (F0 m 1166 ls [])) : W p l e room_1 s m #[Value.ref b] below meth c H locs 407 4557 Q (F0 m 207 ls []) := by
  have hx := hE.1.1
  have hb := hE.1.2.1
  refine lv_aload_n hx hb dL_law_207 rfl (lv_at hl 2 rfl) ?_
  refine q_goi hW (q_runV (As := []) (rest := []) hE hW (c_X11_erase_tz l G σ x1 h1 (q_fr.sub hz (by decide) (by decide))) kw_L_18 (q_recv hE hW h1 rfl q_k11) rfl hl.1 rfl (Nat.le_of_ble_eq_true rfl) dL_law_208 ⟨by decide, by decide⟩ ⟨by decide, by decide⟩) (by decide) (fun kx1 ks2 H locs kp3 kf4 hW => ?_)
  refine lv_aload_n hx hb dL_law_211 rfl (lv_at hl 1 rfl) ?_
  refine q_goi hW (q_runV (As := []) (rest := [.int kx1]) hE hW (c_X12_erase_tz l G ks2 x2 h2 (q_fr.sub (q_fr.fr (q_fr.sub (F2 := [(40, 0), (40, 5), (40, 8), (40, 7), (40, 11), (40, 27), (40, 35)]) (A2 := [(46, 0, 54), (46, 57, 58), (46, 58, 59), (46, 59, 101), (55, 0, 2), (58, 0, 7), (63, 0, 3)]) hz (by decide) (by decide)) kf4 (by decide) (by decide)) (by decide) (by decide))) kw_L_22 (q_recv hE hW h2 rfl q_k12) rfl hl.1 rfl (Nat.le_of_ble_eq_true rfl) dL_law_212 ⟨by decide, by decide⟩ ⟨by decide, by decide⟩) (by decide) (fun kx5 ks6 H locs kp7 kf8 hW => ?_)
  refine lv_icmp_eq (tgt := 1166) hx hb dL_law_215 (by decide) (fun _ => ?_) (fun q_h => absurd (q_eqv kp3 kp7) q_h)
  exact kk _ _ _ hW
set_option maxHeartbeats 4000000 in
set_option maxRecDepth 100000 in
theorem law_k2 (l : Launch) (hE : q_E G p s m #[Value.ref b] c cL_law 4 RL) (hW : q_Wd G q_AT σ0 s.heap σ H locs) (hX : va_X b L xs s s.heap) (hbl : b < s.heap.size) (hbA : ¬ q_N G b) (h1 : q_T G x1 = 26) (h2 : q_T G x2 = 40) (hi : k_ix i L) (hz : q_fr G q_FF q_FA σ) (hl : lv_has ls 4 [(3, .int i), (2, .ref x2), (1, .ref x1), (0, .ref b)])
    (kk : ∀ (σ1 : q_S) (H1 : Heap) (locs1 : List Loc), q_Wd G q_AT σ0 s.heap σ1 H1 locs1 → W p l e room_1 s m #[Value.ref b] below meth c H1 locs1 407 4557 Q (F0 m 1166 ls [])) : W p l e room_1 s m #[Value.ref b] below meth c H locs 407 4557 Q (F0 m 220 ls []) := by
  have hx := hE.1.1
  have hb := hE.1.2.1
  refine lv_aload_n hx hb dL_law_220 rfl (lv_at hl 2 rfl) ?_
  refine q_goi hW (q_runV (As := []) (rest := []) hE hW (c_X11_fault_tz l G σ x1 h1 (q_fr.sub hz (by decide) (by decide))) kw_L_23 (q_recv hE hW h1 rfl q_k11) rfl hl.1 rfl (Nat.le_of_ble_eq_true rfl) dL_law_221 ⟨by decide, by decide⟩ ⟨by decide, by decide⟩) (by decide) (fun kx1 ks2 H locs kp3 kf4 hW => ?_)
  refine lv_aload_n hx hb dL_law_224 rfl (lv_at hl 1 rfl) ?_
  refine q_goi hW (q_runV (As := []) (rest := [.int kx1]) hE hW (c_X12_fault_tz l G ks2 x2 h2 (q_fr.sub (q_fr.fr (q_fr.sub (F2 := [(40, 0), (40, 5), (40, 8), (40, 7), (40, 11), (40, 27), (40, 35)]) (A2 := [(46, 0, 54), (46, 57, 58), (46, 58, 59), (46, 59, 101), (55, 0, 2), (58, 0, 7), (63, 0, 3)]) hz (by decide) (by decide)) kf4 (by decide) (by decide)) (by decide) (by decide))) kw_L_26 (q_recv hE hW h2 rfl q_k12) rfl hl.1 rfl (Nat.le_of_ble_eq_true rfl) dL_law_225 ⟨by decide, by decide⟩ ⟨by decide, by decide⟩) (by decide) (fun kx5 ks6 H locs kp7 kf8 hW => ?_)
  refine lv_icmp_eq (tgt := 1166) hx hb dL_law_228 (by decide) (fun _ => ?_) (fun q_h => absurd (q_eqv kp3 kp7) q_h)
  exact kk _ _ _ hW
set_option maxHeartbeats 4000000 in
set_option maxRecDepth 100000 in
theorem law_k3 (l : Launch) (hE : q_E G p s m #[Value.ref b] c cL_law 4 RL) (hW : q_Wd G q_AT σ0 s.heap σ H locs) (hX : va_X b L xs s s.heap) (hbl : b < s.heap.size) (hbA : ¬ q_N G b) (h1 : q_T G x1 = 26) (h2 : q_T G x2 = 40) (hi : k_ix i L) (hz : q_fr G q_FF q_FA σ) (hl : lv_has ls 4 [(3, .int i), (2, .ref x2), (1, .ref x1), (0, .ref b)])
    (kk : ∀ (σ1 : q_S) (H1 : Heap) (locs1 : List Loc), q_Wd G q_AT σ0 s.heap σ1 H1 locs1 → W p l e room_1 s m #[Value.ref b] below meth c H1 locs1 407 4557 Q (F0 m 1166 ls [])) : W p l e room_1 s m #[Value.ref b] below meth c H locs 407 4557 Q (F0 m 233 ls []) := by
  have hx := hE.1.1
  have hb := hE.1.2.1
  refine lv_aload_n hx hb dL_law_233 rfl (lv_at hl 2 rfl) ?_
  refine q_goi hW (q_runV (As := []) (rest := []) hE hW (c_X11_summer_tz l G σ x1 h1 (q_fr.sub hz (by decide) (by decide))) kw_L_27 (q_recv hE hW h1 rfl q_k11) rfl hl.1 rfl (Nat.le_of_ble_eq_true rfl) dL_law_234 ⟨by decide, by decide⟩ ⟨by decide, by decide⟩) (by decide) (fun kx1 ks2 H locs kp3 kf4 hW => ?_)
  refine lv_aload_n hx hb dL_law_237 rfl (lv_at hl 1 rfl) ?_
  refine q_goi hW (q_runV (As := []) (rest := [.int kx1]) hE hW (c_X12_summer_tz l G ks2 x2 h2 (q_fr.sub (q_fr.fr (q_fr.sub (F2 := [(40, 0), (40, 5), (40, 8), (40, 7), (40, 11), (40, 27), (40, 35)]) (A2 := [(46, 0, 54), (46, 57, 58), (46, 58, 59), (46, 59, 101), (55, 0, 2), (58, 0, 7), (63, 0, 3)]) hz (by decide) (by decide)) kf4 (by decide) (by decide)) (by decide) (by decide))) kw_L_30 (q_recv hE hW h2 rfl q_k12) rfl hl.1 rfl (Nat.le_of_ble_eq_true rfl) dL_law_238 ⟨by decide, by decide⟩ ⟨by decide, by decide⟩) (by decide) (fun kx5 ks6 H locs kp7 kf8 hW => ?_)
  refine lv_icmp_eq (tgt := 1166) hx hb dL_law_241 (by decide) (fun _ => ?_) (fun q_h => absurd (q_eqv kp3 kp7) q_h)
  exact kk _ _ _ hW
set_option maxHeartbeats 4000000 in
set_option maxRecDepth 100000 in
theorem law_k4 (l : Launch) (hE : q_E G p s m #[Value.ref b] c cL_law 4 RL) (hW : q_Wd G q_AT σ0 s.heap σ H locs) (hX : va_X b L xs s s.heap) (hbl : b < s.heap.size) (hbA : ¬ q_N G b) (h1 : q_T G x1 = 26) (h2 : q_T G x2 = 40) (hi : k_ix i L) (hz : q_fr G q_FF q_FA σ) (hl : lv_has ls 4 [(3, .int i), (2, .ref x2), (1, .ref x1), (0, .ref b)])
    (kk : ∀ (σ1 : q_S) (H1 : Heap) (locs1 : List Loc), q_Wd G q_AT σ0 s.heap σ1 H1 locs1 → W p l e room_1 s m #[Value.ref b] below meth c H1 locs1 407 4557 Q (F0 m 1166 ls [])) : W p l e room_1 s m #[Value.ref b] below meth c H locs 407 4557 Q (F0 m 246 ls []) := by
  have hx := hE.1.1
  have hb := hE.1.2.1
  refine lv_aload_n hx hb dL_law_246 rfl (lv_at hl 2 rfl) ?_
  refine lv_aload_n hx hb dL_law_247 rfl (lv_at hl 3 rfl) ?_
  refine lv_iload_n hx hb dL_law_248 rfl (lv_at hl 0 rfl) ?_
  refine lv_iconst (v := 1) hx hb dL_law_249 (by decide) ?_
  refine lv_iadd hx hb dL_law_250 ?_
  refine va_sld hx hb hX hbl hbA hW.2.2 (k_ixi hi 1 (by decide) (by decide)) dL_law_251 ?_
  refine lv_aload_n hx hb dL_law_252 rfl (lv_at hl 3 rfl) ?_
  refine lv_iload_n hx hb dL_law_253 rfl (lv_at hl 0 rfl) ?_
  refine lv_iconst (v := 2) hx hb dL_law_254 (by decide) ?_
  refine lv_iadd hx hb dL_law_255 ?_
  refine va_sld hx hb hX hbl hbA hW.2.2 (k_ixi hi 2 (by decide) (by decide)) dL_law_256 ?_
  refine q_goi hW (q_runV (As := [.int (xs (i + 1).toNatClampNeg), .int (xs (i + 2).toNatClampNeg)]) (rest := []) hE hW (c_X11_cloud_tz l G σ x1 h1 (xs (i + 1).toNatClampNeg) (xs (i + 2).toNatClampNeg) (q_fr.sub hz (by decide) (by decide))) kw_L_31 (q_recv hE hW h1 rfl q_k11) rfl hl.1 rfl (Nat.le_of_ble_eq_true rfl) dL_law_257 ⟨by decide, by decide⟩ ⟨by decide, by decide⟩) (by decide) (fun kx1 ks2 H locs kp3 kf4 hW => ?_)
  refine lv_aload_n hx hb dL_law_260 rfl (lv_at hl 1 rfl) ?_
  refine lv_aload_n hx hb dL_law_261 rfl (lv_at hl 3 rfl) ?_
  refine lv_iload_n hx hb dL_law_262 rfl (lv_at hl 0 rfl) ?_
  refine lv_iconst (v := 1) hx hb dL_law_263 (by decide) ?_
  refine lv_iadd hx hb dL_law_264 ?_
  refine va_sld hx hb hX hbl hbA hW.2.2 (k_ixi hi 1 (by decide) (by decide)) dL_law_265 ?_
  refine lv_aload_n hx hb dL_law_266 rfl (lv_at hl 3 rfl) ?_
  refine lv_iload_n hx hb dL_law_267 rfl (lv_at hl 0 rfl) ?_
  refine lv_iconst (v := 2) hx hb dL_law_268 (by decide) ?_
  refine lv_iadd hx hb dL_law_269 ?_
  refine va_sld hx hb hX hbl hbA hW.2.2 (k_ixi hi 2 (by decide) (by decide)) dL_law_270 ?_
  refine q_goi hW (q_runV (As := [.int (xs (i + 1).toNatClampNeg), .int (xs (i + 2).toNatClampNeg)]) (rest := [.int kx1]) hE hW (c_X12_cloud_tz l G ks2 x2 h2 (xs (i + 1).toNatClampNeg) (xs (i + 2).toNatClampNeg) (q_fr.sub (q_fr.fr (q_fr.sub (F2 := [(40, 0), (40, 5), (40, 8), (40, 7), (40, 11), (40, 27), (40, 35)]) (A2 := [(46, 0, 54), (46, 57, 58), (46, 58, 59), (46, 59, 101), (55, 0, 2), (58, 0, 7), (63, 0, 3)]) hz (by decide) (by decide)) kf4 (by decide) (by decide)) (by decide) (by decide))) kw_L_35 (q_recv hE hW h2 rfl q_k12) rfl hl.1 rfl (Nat.le_of_ble_eq_true rfl) dL_law_271 ⟨by decide, by decide⟩ ⟨by decide, by decide⟩) (by decide) (fun kx5 ks6 H locs kp7 kf8 hW => ?_)
  refine lv_icmp_eq (tgt := 1166) hx hb dL_law_274 (by decide) (fun _ => ?_) (fun q_h => absurd (q_eqv kp3 kp7) q_h)
  exact kk _ _ _ hW
set_option maxHeartbeats 4000000 in
set_option maxRecDepth 100000 in
theorem law_k5 (l : Launch) (hE : q_E G p s m #[Value.ref b] c cL_law 4 RL) (hW : q_Wd G q_AT σ0 s.heap σ H locs) (hX : va_X b L xs s s.heap) (hbl : b < s.heap.size) (hbA : ¬ q_N G b) (h1 : q_T G x1 = 26) (h2 : q_T G x2 = 40) (hi : k_ix i L) (hz : q_fr G q_FF q_FA σ) (hl : lv_has ls 4 [(3, .int i), (2, .ref x2), (1, .ref x1), (0, .ref b)])
    (kk : ∀ (σ1 : q_S) (H1 : Heap) (locs1 : List Loc), q_Wd G q_AT σ0 s.heap σ1 H1 locs1 → W p l e room_1 s m #[Value.ref b] below meth c H1 locs1 407 4557 Q (F0 m 1166 ls [])) : W p l e room_1 s m #[Value.ref b] below meth c H locs 407 4557 Q (F0 m 279 ls []) := by
  have hx := hE.1.1
  have hb := hE.1.2.1
  refine lv_aload_n hx hb dL_law_279 rfl (lv_at hl 2 rfl) ?_
  refine lv_aload_n hx hb dL_law_280 rfl (lv_at hl 3 rfl) ?_
  refine lv_iload_n hx hb dL_law_281 rfl (lv_at hl 0 rfl) ?_
  refine lv_iconst (v := 1) hx hb dL_law_282 (by decide) ?_
  refine lv_iadd hx hb dL_law_283 ?_
  refine va_sld hx hb hX hbl hbA hW.2.2 (k_ixi hi 1 (by decide) (by decide)) dL_law_284 ?_
  refine lv_aload_n hx hb dL_law_285 rfl (lv_at hl 3 rfl) ?_
  refine lv_iload_n hx hb dL_law_286 rfl (lv_at hl 0 rfl) ?_
  refine lv_iconst (v := 2) hx hb dL_law_287 (by decide) ?_
  refine lv_iadd hx hb dL_law_288 ?_
  refine va_sld hx hb hX hbl hbA hW.2.2 (k_ixi hi 2 (by decide) (by decide)) dL_law_289 ?_
  refine q_goi hW (q_runV (As := [.int (xs (i + 1).toNatClampNeg), .int (xs (i + 2).toNatClampNeg)]) (rest := []) hE hW (c_X11_deep_tz l G σ x1 h1 (xs (i + 1).toNatClampNeg) (xs (i + 2).toNatClampNeg) (q_fr.sub hz (by decide) (by decide))) kw_L_36 (q_recv hE hW h1 rfl q_k11) rfl hl.1 rfl (Nat.le_of_ble_eq_true rfl) dL_law_290 ⟨by decide, by decide⟩ ⟨by decide, by decide⟩) (by decide) (fun kx1 ks2 H locs kp3 kf4 hW => ?_)
  refine lv_aload_n hx hb dL_law_293 rfl (lv_at hl 1 rfl) ?_
  refine lv_aload_n hx hb dL_law_294 rfl (lv_at hl 3 rfl) ?_
  refine lv_iload_n hx hb dL_law_295 rfl (lv_at hl 0 rfl) ?_
  refine lv_iconst (v := 1) hx hb dL_law_296 (by decide) ?_
  refine lv_iadd hx hb dL_law_297 ?_
  refine va_sld hx hb hX hbl hbA hW.2.2 (k_ixi hi 1 (by decide) (by decide)) dL_law_298 ?_
  refine lv_aload_n hx hb dL_law_299 rfl (lv_at hl 3 rfl) ?_
  refine lv_iload_n hx hb dL_law_300 rfl (lv_at hl 0 rfl) ?_
  refine lv_iconst (v := 2) hx hb dL_law_301 (by decide) ?_
  refine lv_iadd hx hb dL_law_302 ?_
  refine va_sld hx hb hX hbl hbA hW.2.2 (k_ixi hi 2 (by decide) (by decide)) dL_law_303 ?_
  refine q_goi hW (q_runV (As := [.int (xs (i + 1).toNatClampNeg), .int (xs (i + 2).toNatClampNeg)]) (rest := [.int kx1]) hE hW (c_X12_deep_tz l G ks2 x2 h2 (xs (i + 1).toNatClampNeg) (xs (i + 2).toNatClampNeg) (q_fr.sub (q_fr.fr (q_fr.sub (F2 := [(40, 0), (40, 5), (40, 8), (40, 7), (40, 11), (40, 27), (40, 35)]) (A2 := [(46, 0, 54), (46, 57, 58), (46, 58, 59), (46, 59, 101), (55, 0, 2), (58, 0, 7), (63, 0, 3)]) hz (by decide) (by decide)) kf4 (by decide) (by decide)) (by decide) (by decide))) kw_L_39 (q_recv hE hW h2 rfl q_k12) rfl hl.1 rfl (Nat.le_of_ble_eq_true rfl) dL_law_304 ⟨by decide, by decide⟩ ⟨by decide, by decide⟩) (by decide) (fun kx5 ks6 H locs kp7 kf8 hW => ?_)
  refine lv_icmp_eq (tgt := 1166) hx hb dL_law_307 (by decide) (fun _ => ?_) (fun q_h => absurd (q_eqv kp3 kp7) q_h)
  exact kk _ _ _ hW
set_option maxHeartbeats 4000000 in
set_option maxRecDepth 100000 in
theorem law_k6 (l : Launch) (hE : q_E G p s m #[Value.ref b] c cL_law 4 RL) (hW : q_Wd G q_AT σ0 s.heap σ H locs) (hX : va_X b L xs s s.heap) (hbl : b < s.heap.size) (hbA : ¬ q_N G b) (h1 : q_T G x1 = 26) (h2 : q_T G x2 = 40) (hi : k_ix i L) (hz : q_fr G q_FF q_FA σ) (hl : lv_has ls 4 [(3, .int i), (2, .ref x2), (1, .ref x1), (0, .ref b)])
    (kk : ∀ (σ1 : q_S) (H1 : Heap) (locs1 : List Loc), q_Wd G q_AT σ0 s.heap σ1 H1 locs1 → W p l e room_1 s m #[Value.ref b] below meth c H1 locs1 407 4557 Q (F0 m 1166 ls [])) : W p l e room_1 s m #[Value.ref b] below meth c H locs 407 4557 Q (F0 m 312 ls []) := by
  have hx := hE.1.1
  have hb := hE.1.2.1
  refine lv_aload_n hx hb dL_law_312 rfl (lv_at hl 2 rfl) ?_
  refine lv_aload_n hx hb dL_law_313 rfl (lv_at hl 3 rfl) ?_
  refine lv_iload_n hx hb dL_law_314 rfl (lv_at hl 0 rfl) ?_
  refine lv_iconst (v := 1) hx hb dL_law_315 (by decide) ?_
  refine lv_iadd hx hb dL_law_316 ?_
  refine va_sld hx hb hX hbl hbA hW.2.2 (k_ixi hi 1 (by decide) (by decide)) dL_law_317 ?_
  refine lv_aload_n hx hb dL_law_318 rfl (lv_at hl 3 rfl) ?_
  refine lv_iload_n hx hb dL_law_319 rfl (lv_at hl 0 rfl) ?_
  refine lv_iconst (v := 2) hx hb dL_law_320 (by decide) ?_
  refine lv_iadd hx hb dL_law_321 ?_
  refine va_sld hx hb hX hbl hbA hW.2.2 (k_ixi hi 2 (by decide) (by decide)) dL_law_322 ?_
  refine q_goi hW (q_runV (As := [.int (xs (i + 1).toNatClampNeg), .int (xs (i + 2).toNatClampNeg)]) (rest := []) hE hW (c_X11_washer_tz l G σ x1 h1 (xs (i + 1).toNatClampNeg) (xs (i + 2).toNatClampNeg) (q_fr.sub hz (by decide) (by decide))) kw_L_40 (q_recv hE hW h1 rfl q_k11) rfl hl.1 rfl (Nat.le_of_ble_eq_true rfl) dL_law_323 ⟨by decide, by decide⟩ ⟨by decide, by decide⟩) (by decide) (fun kx1 ks2 H locs kp3 kf4 hW => ?_)
  refine lv_aload_n hx hb dL_law_326 rfl (lv_at hl 1 rfl) ?_
  refine lv_aload_n hx hb dL_law_327 rfl (lv_at hl 3 rfl) ?_
  refine lv_iload_n hx hb dL_law_328 rfl (lv_at hl 0 rfl) ?_
  refine lv_iconst (v := 1) hx hb dL_law_329 (by decide) ?_
  refine lv_iadd hx hb dL_law_330 ?_
  refine va_sld hx hb hX hbl hbA hW.2.2 (k_ixi hi 1 (by decide) (by decide)) dL_law_331 ?_
  refine lv_aload_n hx hb dL_law_332 rfl (lv_at hl 3 rfl) ?_
  refine lv_iload_n hx hb dL_law_333 rfl (lv_at hl 0 rfl) ?_
  refine lv_iconst (v := 2) hx hb dL_law_334 (by decide) ?_
  refine lv_iadd hx hb dL_law_335 ?_
  refine va_sld hx hb hX hbl hbA hW.2.2 (k_ixi hi 2 (by decide) (by decide)) dL_law_336 ?_
  refine q_goi hW (q_runV (As := [.int (xs (i + 1).toNatClampNeg), .int (xs (i + 2).toNatClampNeg)]) (rest := [.int kx1]) hE hW (c_X12_washer_tz l G ks2 x2 h2 (xs (i + 1).toNatClampNeg) (xs (i + 2).toNatClampNeg) (q_fr.sub (q_fr.fr (q_fr.sub (F2 := [(40, 0), (40, 5), (40, 8), (40, 7), (40, 11), (40, 27), (40, 35)]) (A2 := [(46, 0, 54), (46, 57, 58), (46, 58, 59), (46, 59, 101), (55, 0, 2), (58, 0, 7), (63, 0, 3)]) hz (by decide) (by decide)) kf4 (by decide) (by decide)) (by decide) (by decide))) kw_L_43 (q_recv hE hW h2 rfl q_k12) rfl hl.1 rfl (Nat.le_of_ble_eq_true rfl) dL_law_337 ⟨by decide, by decide⟩ ⟨by decide, by decide⟩) (by decide) (fun kx5 ks6 H locs kp7 kf8 hW => ?_)
  refine lv_icmp_eq (tgt := 1166) hx hb dL_law_340 (by decide) (fun _ => ?_) (fun q_h => absurd (q_eqv kp3 kp7) q_h)
  exact kk _ _ _ hW
set_option maxHeartbeats 4000000 in
set_option maxRecDepth 100000 in
theorem law_k7 (l : Launch) (hE : q_E G p s m #[Value.ref b] c cL_law 4 RL) (hW : q_Wd G q_AT σ0 s.heap σ H locs) (hX : va_X b L xs s s.heap) (hbl : b < s.heap.size) (hbA : ¬ q_N G b) (h1 : q_T G x1 = 26) (h2 : q_T G x2 = 40) (hi : k_ix i L) (hz : q_fr G q_FF q_FA σ) (hl : lv_has ls 4 [(3, .int i), (2, .ref x2), (1, .ref x1), (0, .ref b)])
    (kk : ∀ (σ1 : q_S) (H1 : Heap) (locs1 : List Loc), q_Wd G q_AT σ0 s.heap σ1 H1 locs1 → W p l e room_1 s m #[Value.ref b] below meth c H1 locs1 407 4557 Q (F0 m 1166 ls [])) : W p l e room_1 s m #[Value.ref b] below meth c H locs 407 4557 Q (F0 m 345 ls []) := by
  have hx := hE.1.1
  have hb := hE.1.2.1
  refine lv_aload_n hx hb dL_law_345 rfl (lv_at hl 2 rfl) ?_
  refine lv_aload_n hx hb dL_law_346 rfl (lv_at hl 3 rfl) ?_
  refine lv_iload_n hx hb dL_law_347 rfl (lv_at hl 0 rfl) ?_
  refine lv_iconst (v := 1) hx hb dL_law_348 (by decide) ?_
  refine lv_iadd hx hb dL_law_349 ?_
  refine va_sld hx hb hX hbl hbA hW.2.2 (k_ixi hi 1 (by decide) (by decide)) dL_law_350 ?_
  refine lv_aload_n hx hb dL_law_351 rfl (lv_at hl 3 rfl) ?_
  refine lv_iload_n hx hb dL_law_352 rfl (lv_at hl 0 rfl) ?_
  refine lv_iconst (v := 2) hx hb dL_law_353 (by decide) ?_
  refine lv_iadd hx hb dL_law_354 ?_
  refine va_sld hx hb hX hbl hbA hW.2.2 (k_ixi hi 2 (by decide) (by decide)) dL_law_355 ?_
  refine q_goi hW (q_runV (As := [.int (xs (i + 1).toNatClampNeg), .int (xs (i + 2).toNatClampNeg)]) (rest := []) hE hW (c_X11_water_tz l G σ x1 h1 (xs (i + 1).toNatClampNeg) (xs (i + 2).toNatClampNeg) (q_fr.sub hz (by decide) (by decide))) kw_L_44 (q_recv hE hW h1 rfl q_k11) rfl hl.1 rfl (Nat.le_of_ble_eq_true rfl) dL_law_356 ⟨by decide, by decide⟩ ⟨by decide, by decide⟩) (by decide) (fun kx1 ks2 H locs kp3 kf4 hW => ?_)
  refine lv_aload_n hx hb dL_law_359 rfl (lv_at hl 1 rfl) ?_
  refine lv_aload_n hx hb dL_law_360 rfl (lv_at hl 3 rfl) ?_
  refine lv_iload_n hx hb dL_law_361 rfl (lv_at hl 0 rfl) ?_
  refine lv_iconst (v := 1) hx hb dL_law_362 (by decide) ?_
  refine lv_iadd hx hb dL_law_363 ?_
  refine va_sld hx hb hX hbl hbA hW.2.2 (k_ixi hi 1 (by decide) (by decide)) dL_law_364 ?_
  refine lv_aload_n hx hb dL_law_365 rfl (lv_at hl 3 rfl) ?_
  refine lv_iload_n hx hb dL_law_366 rfl (lv_at hl 0 rfl) ?_
  refine lv_iconst (v := 2) hx hb dL_law_367 (by decide) ?_
  refine lv_iadd hx hb dL_law_368 ?_
  refine va_sld hx hb hX hbl hbA hW.2.2 (k_ixi hi 2 (by decide) (by decide)) dL_law_369 ?_
  refine q_goi hW (q_runV (As := [.int (xs (i + 1).toNatClampNeg), .int (xs (i + 2).toNatClampNeg)]) (rest := [.int kx1]) hE hW (c_X12_water_tz l G ks2 x2 h2 (xs (i + 1).toNatClampNeg) (xs (i + 2).toNatClampNeg) (q_fr.sub (q_fr.fr (q_fr.sub (F2 := [(40, 0), (40, 5), (40, 8), (40, 7), (40, 11), (40, 27), (40, 35)]) (A2 := [(46, 0, 54), (46, 57, 58), (46, 58, 59), (46, 59, 101), (55, 0, 2), (58, 0, 7), (63, 0, 3)]) hz (by decide) (by decide)) kf4 (by decide) (by decide)) (by decide) (by decide))) kw_L_47 (q_recv hE hW h2 rfl q_k12) rfl hl.1 rfl (Nat.le_of_ble_eq_true rfl) dL_law_370 ⟨by decide, by decide⟩ ⟨by decide, by decide⟩) (by decide) (fun kx5 ks6 H locs kp7 kf8 hW => ?_)
  refine lv_icmp_eq (tgt := 1166) hx hb dL_law_373 (by decide) (fun _ => ?_) (fun q_h => absurd (kp3.2.trans kp7.2.symm) q_h)
  exact kk _ _ _ hW
set_option maxHeartbeats 4000000 in
set_option maxRecDepth 100000 in
theorem law_k8 (l : Launch) (hE : q_E G p s m #[Value.ref b] c cL_law 4 RL) (hW : q_Wd G q_AT σ0 s.heap σ H locs) (hX : va_X b L xs s s.heap) (hbl : b < s.heap.size) (hbA : ¬ q_N G b) (h1 : q_T G x1 = 26) (h2 : q_T G x2 = 40) (hi : k_ix i L) (hz : q_fr G q_FF q_FA σ) (hl : lv_has ls 4 [(3, .int i), (2, .ref x2), (1, .ref x1), (0, .ref b)])
    (kk : ∀ (σ1 : q_S) (H1 : Heap) (locs1 : List Loc), q_Wd G q_AT σ0 s.heap σ1 H1 locs1 → W p l e room_1 s m #[Value.ref b] below meth c H1 locs1 407 4557 Q (F0 m 1166 ls [])) : W p l e room_1 s m #[Value.ref b] below meth c H locs 407 4557 Q (F0 m 378 ls []) := by
  have hx := hE.1.1
  have hb := hE.1.2.1
  refine lv_aload_n hx hb dL_law_378 rfl (lv_at hl 2 rfl) ?_
  refine lv_aload_n hx hb dL_law_379 rfl (lv_at hl 3 rfl) ?_
  refine lv_iload_n hx hb dL_law_380 rfl (lv_at hl 0 rfl) ?_
  refine lv_iconst (v := 1) hx hb dL_law_381 (by decide) ?_
  refine lv_iadd hx hb dL_law_382 ?_
  refine va_sld hx hb hX hbl hbA hW.2.2 (k_ixi hi 1 (by decide) (by decide)) dL_law_383 ?_
  refine lv_aload_n hx hb dL_law_384 rfl (lv_at hl 3 rfl) ?_
  refine lv_iload_n hx hb dL_law_385 rfl (lv_at hl 0 rfl) ?_
  refine lv_iconst (v := 2) hx hb dL_law_386 (by decide) ?_
  refine lv_iadd hx hb dL_law_387 ?_
  refine va_sld hx hb hX hbl hbA hW.2.2 (k_ixi hi 2 (by decide) (by decide)) dL_law_388 ?_
  refine q_goi hW (q_runV (As := [.int (xs (i + 1).toNatClampNeg), .int (xs (i + 2).toNatClampNeg)]) (rest := []) hE hW (c_X11_as_tz l G σ x1 h1 (xs (i + 1).toNatClampNeg) (xs (i + 2).toNatClampNeg) (q_fr.sub hz (by decide) (by decide))) kw_L_48 (q_recv hE hW h1 rfl q_k11) rfl hl.1 rfl (Nat.le_of_ble_eq_true rfl) dL_law_389 ⟨by decide, by decide⟩ ⟨by decide, by decide⟩) (by decide) (fun kx1 ks2 H locs kp3 kf4 hW => ?_)
  refine lv_aload_n hx hb dL_law_392 rfl (lv_at hl 1 rfl) ?_
  refine lv_aload_n hx hb dL_law_393 rfl (lv_at hl 3 rfl) ?_
  refine lv_iload_n hx hb dL_law_394 rfl (lv_at hl 0 rfl) ?_
  refine lv_iconst (v := 1) hx hb dL_law_395 (by decide) ?_
  refine lv_iadd hx hb dL_law_396 ?_
  refine va_sld hx hb hX hbl hbA hW.2.2 (k_ixi hi 1 (by decide) (by decide)) dL_law_397 ?_
  refine lv_aload_n hx hb dL_law_398 rfl (lv_at hl 3 rfl) ?_
  refine lv_iload_n hx hb dL_law_399 rfl (lv_at hl 0 rfl) ?_
  refine lv_iconst (v := 2) hx hb dL_law_400 (by decide) ?_
  refine lv_iadd hx hb dL_law_401 ?_
  refine va_sld hx hb hX hbl hbA hW.2.2 (k_ixi hi 2 (by decide) (by decide)) dL_law_402 ?_
  refine q_goi hW (q_runV (As := [.int (xs (i + 1).toNatClampNeg), .int (xs (i + 2).toNatClampNeg)]) (rest := [.int kx1]) hE hW (c_X12_as_tz l G ks2 x2 h2 (xs (i + 1).toNatClampNeg) (xs (i + 2).toNatClampNeg) (q_fr.sub (q_fr.fr (q_fr.sub (F2 := [(40, 0), (40, 5), (40, 8), (40, 7), (40, 11), (40, 27), (40, 35)]) (A2 := [(46, 0, 54), (46, 57, 58), (46, 58, 59), (46, 59, 101), (55, 0, 2), (58, 0, 7), (63, 0, 3)]) hz (by decide) (by decide)) kf4 (by decide) (by decide)) (by decide) (by decide))) kw_L_51 (q_recv hE hW h2 rfl q_k12) rfl hl.1 rfl (Nat.le_of_ble_eq_true rfl) dL_law_403 ⟨by decide, by decide⟩ ⟨by decide, by decide⟩) (by decide) (fun kx5 ks6 H locs kp7 kf8 hW => ?_)
  refine lv_icmp_eq (tgt := 1166) hx hb dL_law_406 (by decide) (fun _ => ?_) (fun q_h => absurd (q_eqv kp3 kp7) q_h)
  exact kk _ _ _ hW
set_option maxHeartbeats 4000000 in
set_option maxRecDepth 100000 in
theorem law_k9 (l : Launch) (hE : q_E G p s m #[Value.ref b] c cL_law 4 RL) (hW : q_Wd G q_AT σ0 s.heap σ H locs) (hX : va_X b L xs s s.heap) (hbl : b < s.heap.size) (hbA : ¬ q_N G b) (h1 : q_T G x1 = 26) (h2 : q_T G x2 = 40) (hi : k_ix i L) (hz : q_fr G q_FF q_FA σ) (hl : lv_has ls 4 [(3, .int i), (2, .ref x2), (1, .ref x1), (0, .ref b)])
    (kk : ∀ (σ1 : q_S) (H1 : Heap) (locs1 : List Loc), q_Wd G q_AT σ0 s.heap σ1 H1 locs1 → W p l e room_1 s m #[Value.ref b] below meth c H1 locs1 407 4557 Q (F0 m 1166 ls [])) : W p l e room_1 s m #[Value.ref b] below meth c H locs 407 4557 Q (F0 m 411 ls []) := by
  have hx := hE.1.1
  have hb := hE.1.2.1
  refine lv_aload_n hx hb dL_law_411 rfl (lv_at hl 2 rfl) ?_
  refine lv_aload_n hx hb dL_law_412 rfl (lv_at hl 3 rfl) ?_
  refine lv_iload_n hx hb dL_law_413 rfl (lv_at hl 0 rfl) ?_
  refine lv_iconst (v := 1) hx hb dL_law_414 (by decide) ?_
  refine lv_iadd hx hb dL_law_415 ?_
  refine va_sld hx hb hX hbl hbA hW.2.2 (k_ixi hi 1 (by decide) (by decide)) dL_law_416 ?_
  refine lv_aload_n hx hb dL_law_417 rfl (lv_at hl 3 rfl) ?_
  refine lv_iload_n hx hb dL_law_418 rfl (lv_at hl 0 rfl) ?_
  refine lv_iconst (v := 2) hx hb dL_law_419 (by decide) ?_
  refine lv_iadd hx hb dL_law_420 ?_
  refine va_sld hx hb hX hbl hbA hW.2.2 (k_ixi hi 2 (by decide) (by decide)) dL_law_421 ?_
  refine q_goi hW (q_runV (As := [.int (xs (i + 1).toNatClampNeg), .int (xs (i + 2).toNatClampNeg)]) (rest := []) hE hW (c_X11_wash_tz l G σ x1 h1 (xs (i + 1).toNatClampNeg) (xs (i + 2).toNatClampNeg) (q_fr.sub hz (by decide) (by decide))) kw_L_52 (q_recv hE hW h1 rfl q_k11) rfl hl.1 rfl (Nat.le_of_ble_eq_true rfl) dL_law_422 ⟨by decide, by decide⟩ ⟨by decide, by decide⟩) (by decide) (fun kx1 ks2 H locs kp3 kf4 hW => ?_)
  refine lv_aload_n hx hb dL_law_425 rfl (lv_at hl 1 rfl) ?_
  refine lv_aload_n hx hb dL_law_426 rfl (lv_at hl 3 rfl) ?_
  refine lv_iload_n hx hb dL_law_427 rfl (lv_at hl 0 rfl) ?_
  refine lv_iconst (v := 1) hx hb dL_law_428 (by decide) ?_
  refine lv_iadd hx hb dL_law_429 ?_
  refine va_sld hx hb hX hbl hbA hW.2.2 (k_ixi hi 1 (by decide) (by decide)) dL_law_430 ?_
  refine lv_aload_n hx hb dL_law_431 rfl (lv_at hl 3 rfl) ?_
  refine lv_iload_n hx hb dL_law_432 rfl (lv_at hl 0 rfl) ?_
  refine lv_iconst (v := 2) hx hb dL_law_433 (by decide) ?_
  refine lv_iadd hx hb dL_law_434 ?_
  refine va_sld hx hb hX hbl hbA hW.2.2 (k_ixi hi 2 (by decide) (by decide)) dL_law_435 ?_
  refine q_goi hW (q_runV (As := [.int (xs (i + 1).toNatClampNeg), .int (xs (i + 2).toNatClampNeg)]) (rest := [.int kx1]) hE hW (c_X12_wash_tz l G ks2 x2 h2 (xs (i + 1).toNatClampNeg) (xs (i + 2).toNatClampNeg) (q_fr.sub (q_fr.fr (q_fr.sub (F2 := [(40, 0), (40, 5), (40, 8), (40, 7), (40, 11), (40, 27), (40, 35)]) (A2 := [(46, 0, 54), (46, 57, 58), (46, 58, 59), (46, 59, 101), (55, 0, 2), (58, 0, 7), (63, 0, 3)]) hz (by decide) (by decide)) kf4 (by decide) (by decide)) (by decide) (by decide))) kw_L_55 (q_recv hE hW h2 rfl q_k12) rfl hl.1 rfl (Nat.le_of_ble_eq_true rfl) dL_law_436 ⟨by decide, by decide⟩ ⟨by decide, by decide⟩) (by decide) (fun kx5 ks6 H locs kp7 kf8 hW => ?_)
  refine lv_icmp_eq (tgt := 1166) hx hb dL_law_439 (by decide) (fun _ => ?_) (fun q_h => absurd (q_eqv kp3 kp7) q_h)
  exact kk _ _ _ hW
set_option maxHeartbeats 4000000 in
set_option maxRecDepth 100000 in
theorem law_k10 (l : Launch) (hE : q_E G p s m #[Value.ref b] c cL_law 4 RL) (hW : q_Wd G q_AT σ0 s.heap σ H locs) (hX : va_X b L xs s s.heap) (hbl : b < s.heap.size) (hbA : ¬ q_N G b) (h1 : q_T G x1 = 26) (h2 : q_T G x2 = 40) (hi : k_ix i L) (hz : q_fr G q_FF q_FA σ) (hl : lv_has ls 4 [(3, .int i), (2, .ref x2), (1, .ref x1), (0, .ref b)])
    (kk : ∀ (σ1 : q_S) (H1 : Heap) (locs1 : List Loc), q_Wd G q_AT σ0 s.heap σ1 H1 locs1 → W p l e room_1 s m #[Value.ref b] below meth c H1 locs1 407 4557 Q (F0 m 1166 ls [])) : W p l e room_1 s m #[Value.ref b] below meth c H locs 407 4557 Q (F0 m 444 ls []) := by
  have hx := hE.1.1
  have hb := hE.1.2.1
  refine lv_aload_n hx hb dL_law_444 rfl (lv_at hl 2 rfl) ?_
  refine lv_aload_n hx hb dL_law_445 rfl (lv_at hl 3 rfl) ?_
  refine lv_iload_n hx hb dL_law_446 rfl (lv_at hl 0 rfl) ?_
  refine lv_iconst (v := 1) hx hb dL_law_447 (by decide) ?_
  refine lv_iadd hx hb dL_law_448 ?_
  refine va_sld hx hb hX hbl hbA hW.2.2 (k_ixi hi 1 (by decide) (by decide)) dL_law_449 ?_
  refine q_goi hW (q_runV (As := [.int (xs (i + 1).toNatClampNeg)]) (rest := []) hE hW (c_X11_hang_tz l G σ x1 h1 (xs (i + 1).toNatClampNeg) (q_fr.sub hz (by decide) (by decide))) kw_L_56 (q_recv hE hW h1 rfl q_k11) rfl hl.1 rfl (Nat.le_of_ble_eq_true rfl) dL_law_450 ⟨by decide, by decide⟩ ⟨by decide, by decide⟩) (by decide) (fun kx1 ks2 H locs kp3 kf4 hW => ?_)
  refine lv_aload_n hx hb dL_law_453 rfl (lv_at hl 1 rfl) ?_
  refine lv_aload_n hx hb dL_law_454 rfl (lv_at hl 3 rfl) ?_
  refine lv_iload_n hx hb dL_law_455 rfl (lv_at hl 0 rfl) ?_
  refine lv_iconst (v := 1) hx hb dL_law_456 (by decide) ?_
  refine lv_iadd hx hb dL_law_457 ?_
  refine va_sld hx hb hX hbl hbA hW.2.2 (k_ixi hi 1 (by decide) (by decide)) dL_law_458 ?_
  refine q_goi hW (q_runV (As := [.int (xs (i + 1).toNatClampNeg)]) (rest := [.int kx1]) hE hW (c_X12_hang_tz l G ks2 x2 h2 (xs (i + 1).toNatClampNeg) (q_fr.sub (q_fr.fr (q_fr.sub (F2 := [(40, 0), (40, 5), (40, 8), (40, 7), (40, 11), (40, 27), (40, 35)]) (A2 := [(46, 0, 54), (46, 57, 58), (46, 58, 59), (46, 59, 101), (55, 0, 2), (58, 0, 7), (63, 0, 3)]) hz (by decide) (by decide)) kf4 (by decide) (by decide)) (by decide) (by decide))) kw_L_59 (q_recv hE hW h2 rfl q_k12) rfl hl.1 rfl (Nat.le_of_ble_eq_true rfl) dL_law_459 ⟨by decide, by decide⟩ ⟨by decide, by decide⟩) (by decide) (fun kx5 ks6 H locs kp7 kf8 hW => ?_)
  refine lv_icmp_eq (tgt := 1166) hx hb dL_law_462 (by decide) (fun _ => ?_) (fun q_h => absurd (q_eqv kp3 kp7) q_h)
  exact kk _ _ _ hW
set_option maxHeartbeats 4000000 in
set_option maxRecDepth 100000 in
theorem law_k11 (l : Launch) (hE : q_E G p s m #[Value.ref b] c cL_law 4 RL) (hW : q_Wd G q_AT σ0 s.heap σ H locs) (hX : va_X b L xs s s.heap) (hbl : b < s.heap.size) (hbA : ¬ q_N G b) (h1 : q_T G x1 = 26) (h2 : q_T G x2 = 40) (hi : k_ix i L) (hz : q_fr G q_FF q_FA σ) (hl : lv_has ls 4 [(3, .int i), (2, .ref x2), (1, .ref x1), (0, .ref b)])
    (kk : ∀ (σ1 : q_S) (H1 : Heap) (locs1 : List Loc), q_Wd G q_AT σ0 s.heap σ1 H1 locs1 → W p l e room_1 s m #[Value.ref b] below meth c H1 locs1 407 4557 Q (F0 m 1166 ls [])) : W p l e room_1 s m #[Value.ref b] below meth c H locs 407 4557 Q (F0 m 467 ls []) := by
  have hx := hE.1.1
  have hb := hE.1.2.1
  refine lv_aload_n hx hb dL_law_467 rfl (lv_at hl 2 rfl) ?_
  refine lv_aload_n hx hb dL_law_468 rfl (lv_at hl 3 rfl) ?_
  refine lv_iload_n hx hb dL_law_469 rfl (lv_at hl 0 rfl) ?_
  refine lv_iconst (v := 1) hx hb dL_law_470 (by decide) ?_
  refine lv_iadd hx hb dL_law_471 ?_
  refine va_sld hx hb hX hbl hbA hW.2.2 (k_ixi hi 1 (by decide) (by decide)) dL_law_472 ?_
  refine q_goi hW (q_runV (As := [.int (xs (i + 1).toNatClampNeg)]) (rest := []) hE hW (c_X11_again_tz l G σ x1 h1 (xs (i + 1).toNatClampNeg) (q_fr.sub hz (by decide) (by decide))) kw_L_60 (q_recv hE hW h1 rfl q_k11) rfl hl.1 rfl (Nat.le_of_ble_eq_true rfl) dL_law_473 ⟨by decide, by decide⟩ ⟨by decide, by decide⟩) (by decide) (fun kx1 ks2 H locs kp3 kf4 hW => ?_)
  refine lv_aload_n hx hb dL_law_476 rfl (lv_at hl 1 rfl) ?_
  refine lv_aload_n hx hb dL_law_477 rfl (lv_at hl 3 rfl) ?_
  refine lv_iload_n hx hb dL_law_478 rfl (lv_at hl 0 rfl) ?_
  refine lv_iconst (v := 1) hx hb dL_law_479 (by decide) ?_
  refine lv_iadd hx hb dL_law_480 ?_
  refine va_sld hx hb hX hbl hbA hW.2.2 (k_ixi hi 1 (by decide) (by decide)) dL_law_481 ?_
  refine q_goi hW (q_runV (As := [.int (xs (i + 1).toNatClampNeg)]) (rest := [.int kx1]) hE hW (c_X12_again_tz l G ks2 x2 h2 (xs (i + 1).toNatClampNeg) (q_fr.sub (q_fr.fr (q_fr.sub (F2 := [(40, 0), (40, 5), (40, 8), (40, 7), (40, 11), (40, 27), (40, 35)]) (A2 := [(46, 0, 54), (46, 57, 58), (46, 58, 59), (46, 59, 101), (55, 0, 2), (58, 0, 7), (63, 0, 3)]) hz (by decide) (by decide)) kf4 (by decide) (by decide)) (by decide) (by decide))) kw_L_63 (q_recv hE hW h2 rfl q_k12) rfl hl.1 rfl (Nat.le_of_ble_eq_true rfl) dL_law_482 ⟨by decide, by decide⟩ ⟨by decide, by decide⟩) (by decide) (fun kx5 ks6 H locs kp7 kf8 hW => ?_)
  refine lv_icmp_eq (tgt := 1166) hx hb dL_law_485 (by decide) (fun _ => ?_) (fun q_h => absurd (q_eqv kp3 kp7) q_h)
  exact kk _ _ _ hW
set_option maxHeartbeats 4000000 in
set_option maxRecDepth 100000 in
theorem law_k12 (l : Launch) (hE : q_E G p s m #[Value.ref b] c cL_law 4 RL) (hW : q_Wd G q_AT σ0 s.heap σ H locs) (hX : va_X b L xs s s.heap) (hbl : b < s.heap.size) (hbA : ¬ q_N G b) (h1 : q_T G x1 = 26) (h2 : q_T G x2 = 40) (hi : k_ix i L) (hz : q_fr G q_FF q_FA σ) (hl : lv_has ls 4 [(3, .int i), (2, .ref x2), (1, .ref x1), (0, .ref b)])
    (kk : ∀ (σ1 : q_S) (H1 : Heap) (locs1 : List Loc), q_Wd G q_AT σ0 s.heap σ1 H1 locs1 → W p l e room_1 s m #[Value.ref b] below meth c H1 locs1 407 4557 Q (F0 m 1166 ls [])) : W p l e room_1 s m #[Value.ref b] below meth c H locs 407 4557 Q (F0 m 490 ls []) := by
  have hx := hE.1.1
  have hb := hE.1.2.1
  refine lv_aload_n hx hb dL_law_490 rfl (lv_at hl 2 rfl) ?_
  refine lv_aload_n hx hb dL_law_491 rfl (lv_at hl 3 rfl) ?_
  refine lv_iload_n hx hb dL_law_492 rfl (lv_at hl 0 rfl) ?_
  refine lv_iconst (v := 1) hx hb dL_law_493 (by decide) ?_
  refine lv_iadd hx hb dL_law_494 ?_
  refine va_sld hx hb hX hbl hbA hW.2.2 (k_ixi hi 1 (by decide) (by decide)) dL_law_495 ?_
  refine q_goi hW (q_runV (As := [.int (xs (i + 1).toNatClampNeg)]) (rest := []) hE hW (c_X11_send_tz l G σ x1 h1 (xs (i + 1).toNatClampNeg) (q_fr.sub hz (by decide) (by decide))) kw_L_64 (q_recv hE hW h1 rfl q_k11) rfl hl.1 rfl (Nat.le_of_ble_eq_true rfl) dL_law_496 ⟨by decide, by decide⟩ ⟨by decide, by decide⟩) (by decide) (fun kx1 ks2 H locs kp3 kf4 hW => ?_)
  refine lv_aload_n hx hb dL_law_499 rfl (lv_at hl 1 rfl) ?_
  refine lv_aload_n hx hb dL_law_500 rfl (lv_at hl 3 rfl) ?_
  refine lv_iload_n hx hb dL_law_501 rfl (lv_at hl 0 rfl) ?_
  refine lv_iconst (v := 1) hx hb dL_law_502 (by decide) ?_
  refine lv_iadd hx hb dL_law_503 ?_
  refine va_sld hx hb hX hbl hbA hW.2.2 (k_ixi hi 1 (by decide) (by decide)) dL_law_504 ?_
  refine q_goi hW (q_runV (As := [.int (xs (i + 1).toNatClampNeg)]) (rest := [.int kx1]) hE hW (c_X12_send_tz l G ks2 x2 h2 (xs (i + 1).toNatClampNeg) (q_fr.sub (q_fr.fr (q_fr.sub (F2 := [(40, 0), (40, 5), (40, 8), (40, 7), (40, 11), (40, 27), (40, 35)]) (A2 := [(46, 0, 54), (46, 57, 58), (46, 58, 59), (46, 59, 101), (55, 0, 2), (58, 0, 7), (63, 0, 3)]) hz (by decide) (by decide)) kf4 (by decide) (by decide)) (by decide) (by decide))) kw_L_67 (q_recv hE hW h2 rfl q_k12) rfl hl.1 rfl (Nat.le_of_ble_eq_true rfl) dL_law_505 ⟨by decide, by decide⟩ ⟨by decide, by decide⟩) (by decide) (fun kx5 ks6 H locs kp7 kf8 hW => ?_)
  refine lv_icmp_eq (tgt := 1166) hx hb dL_law_508 (by decide) (fun _ => ?_) (fun q_h => absurd (q_eqv kp3 kp7) q_h)
  exact kk _ _ _ hW
set_option maxHeartbeats 4000000 in
set_option maxRecDepth 100000 in
theorem law_k13 (l : Launch) (hE : q_E G p s m #[Value.ref b] c cL_law 4 RL) (hW : q_Wd G q_AT σ0 s.heap σ H locs) (hX : va_X b L xs s s.heap) (hbl : b < s.heap.size) (hbA : ¬ q_N G b) (h1 : q_T G x1 = 26) (h2 : q_T G x2 = 40) (hi : k_ix i L) (hz : q_fr G q_FF q_FA σ) (hl : lv_has ls 4 [(3, .int i), (2, .ref x2), (1, .ref x1), (0, .ref b)])
    (kk : ∀ (σ1 : q_S) (H1 : Heap) (locs1 : List Loc), q_Wd G q_AT σ0 s.heap σ1 H1 locs1 → W p l e room_1 s m #[Value.ref b] below meth c H1 locs1 407 4557 Q (F0 m 1166 ls [])) : W p l e room_1 s m #[Value.ref b] below meth c H locs 407 4557 Q (F0 m 513 ls []) := by
  have hx := hE.1.1
  have hb := hE.1.2.1
  refine lv_aload_n hx hb dL_law_513 rfl (lv_at hl 2 rfl) ?_
  refine lv_aload_n hx hb dL_law_514 rfl (lv_at hl 3 rfl) ?_
  refine lv_iload_n hx hb dL_law_515 rfl (lv_at hl 0 rfl) ?_
  refine lv_iconst (v := 1) hx hb dL_law_516 (by decide) ?_
  refine lv_iadd hx hb dL_law_517 ?_
  refine va_sld hx hb hX hbl hbA hW.2.2 (k_ixi hi 1 (by decide) (by decide)) dL_law_518 ?_
  refine q_goi hW (q_runV (As := [.int (xs (i + 1).toNatClampNeg)]) (rest := []) hE hW (c_X11_soap_tz l G σ x1 h1 (xs (i + 1).toNatClampNeg) (q_fr.sub hz (by decide) (by decide))) kw_L_68 (q_recv hE hW h1 rfl q_k11) rfl hl.1 rfl (Nat.le_of_ble_eq_true rfl) dL_law_519 ⟨by decide, by decide⟩ ⟨by decide, by decide⟩) (by decide) (fun kx1 ks2 H locs kp3 kf4 hW => ?_)
  refine lv_aload_n hx hb dL_law_522 rfl (lv_at hl 1 rfl) ?_
  refine lv_aload_n hx hb dL_law_523 rfl (lv_at hl 3 rfl) ?_
  refine lv_iload_n hx hb dL_law_524 rfl (lv_at hl 0 rfl) ?_
  refine lv_iconst (v := 1) hx hb dL_law_525 (by decide) ?_
  refine lv_iadd hx hb dL_law_526 ?_
  refine va_sld hx hb hX hbl hbA hW.2.2 (k_ixi hi 1 (by decide) (by decide)) dL_law_527 ?_
  refine q_goi hW (q_runV (As := [.int (xs (i + 1).toNatClampNeg)]) (rest := [.int kx1]) hE hW (c_X12_soap_tz l G ks2 x2 h2 (xs (i + 1).toNatClampNeg) (q_fr.sub (q_fr.fr (q_fr.sub (F2 := [(40, 0), (40, 5), (40, 8), (40, 7), (40, 11), (40, 27), (40, 35)]) (A2 := [(46, 0, 54), (46, 57, 58), (46, 58, 59), (46, 59, 101), (55, 0, 2), (58, 0, 7), (63, 0, 3)]) hz (by decide) (by decide)) kf4 (by decide) (by decide)) (by decide) (by decide))) kw_L_71 (q_recv hE hW h2 rfl q_k12) rfl hl.1 rfl (Nat.le_of_ble_eq_true rfl) dL_law_528 ⟨by decide, by decide⟩ ⟨by decide, by decide⟩) (by decide) (fun kx5 ks6 H locs kp7 kf8 hW => ?_)
  refine lv_icmp_eq (tgt := 1166) hx hb dL_law_531 (by decide) (fun _ => ?_) (fun q_h => absurd (kp3.2.trans kp7.2.symm) q_h)
  exact kk _ _ _ hW
set_option maxHeartbeats 4000000 in
set_option maxRecDepth 100000 in
theorem law_k14 (l : Launch) (hE : q_E G p s m #[Value.ref b] c cL_law 4 RL) (hW : q_Wd G q_AT σ0 s.heap σ H locs) (hX : va_X b L xs s s.heap) (hbl : b < s.heap.size) (hbA : ¬ q_N G b) (h1 : q_T G x1 = 26) (h2 : q_T G x2 = 40) (hi : k_ix i L) (hz : q_fr G q_FF q_FA σ) (hl : lv_has ls 4 [(3, .int i), (2, .ref x2), (1, .ref x1), (0, .ref b)])
    (kk : ∀ (σ1 : q_S) (H1 : Heap) (locs1 : List Loc), q_Wd G q_AT σ0 s.heap σ1 H1 locs1 → W p l e room_1 s m #[Value.ref b] below meth c H1 locs1 407 4557 Q (F0 m 1166 ls [])) : W p l e room_1 s m #[Value.ref b] below meth c H locs 407 4557 Q (F0 m 536 ls []) := by
  have hx := hE.1.1
  have hb := hE.1.2.1
  refine lv_aload_n hx hb dL_law_536 rfl (lv_at hl 2 rfl) ?_
  refine lv_aload_n hx hb dL_law_537 rfl (lv_at hl 3 rfl) ?_
  refine lv_iload_n hx hb dL_law_538 rfl (lv_at hl 0 rfl) ?_
  refine lv_iconst (v := 1) hx hb dL_law_539 (by decide) ?_
  refine lv_iadd hx hb dL_law_540 ?_
  refine va_sld hx hb hX hbl hbA hW.2.2 (k_ixi hi 1 (by decide) (by decide)) dL_law_541 ?_
  refine q_goi hW (q_runV (As := [.int (xs (i + 1).toNatClampNeg)]) (rest := []) hE hW (c_X11_hour_tz l G σ x1 h1 (xs (i + 1).toNatClampNeg) (q_fr.sub hz (by decide) (by decide))) kw_L_72 (q_recv hE hW h1 rfl q_k11) rfl hl.1 rfl (Nat.le_of_ble_eq_true rfl) dL_law_542 ⟨by decide, by decide⟩ ⟨by decide, by decide⟩) (by decide) (fun kx1 ks2 H locs kp3 kf4 hW => ?_)
  refine lv_aload_n hx hb dL_law_545 rfl (lv_at hl 1 rfl) ?_
  refine lv_aload_n hx hb dL_law_546 rfl (lv_at hl 3 rfl) ?_
  refine lv_iload_n hx hb dL_law_547 rfl (lv_at hl 0 rfl) ?_
  refine lv_iconst (v := 1) hx hb dL_law_548 (by decide) ?_
  refine lv_iadd hx hb dL_law_549 ?_
  refine va_sld hx hb hX hbl hbA hW.2.2 (k_ixi hi 1 (by decide) (by decide)) dL_law_550 ?_
  refine q_goi hW (q_runV (As := [.int (xs (i + 1).toNatClampNeg)]) (rest := [.int kx1]) hE hW (c_X12_hour_tz l G ks2 x2 h2 (xs (i + 1).toNatClampNeg) (q_fr.sub (q_fr.fr (q_fr.sub (F2 := [(40, 0), (40, 5), (40, 8), (40, 7), (40, 11), (40, 27), (40, 35)]) (A2 := [(46, 0, 54), (46, 57, 58), (46, 58, 59), (46, 59, 101), (55, 0, 2), (58, 0, 7), (63, 0, 3)]) hz (by decide) (by decide)) kf4 (by decide) (by decide)) (by decide) (by decide))) kw_L_75 (q_recv hE hW h2 rfl q_k12) rfl hl.1 rfl (Nat.le_of_ble_eq_true rfl) dL_law_551 ⟨by decide, by decide⟩ ⟨by decide, by decide⟩) (by decide) (fun kx5 ks6 H locs kp7 kf8 hW => ?_)
  refine lv_icmp_eq (tgt := 1166) hx hb dL_law_554 (by decide) (fun _ => ?_) (fun q_h => absurd (kp3.2.trans kp7.2.symm) q_h)
  exact kk _ _ _ hW
set_option maxHeartbeats 4000000 in
set_option maxRecDepth 100000 in
theorem law_k15 (l : Launch) (hE : q_E G p s m #[Value.ref b] c cL_law 4 RL) (hW : q_Wd G q_AT σ0 s.heap σ H locs) (hX : va_X b L xs s s.heap) (hbl : b < s.heap.size) (hbA : ¬ q_N G b) (h1 : q_T G x1 = 26) (h2 : q_T G x2 = 40) (hi : k_ix i L) (hz : q_fr G q_FF q_FA σ) (hl : lv_has ls 4 [(3, .int i), (2, .ref x2), (1, .ref x1), (0, .ref b)])
    (kk : ∀ (σ1 : q_S) (H1 : Heap) (locs1 : List Loc), q_Wd G q_AT σ0 s.heap σ1 H1 locs1 → W p l e room_1 s m #[Value.ref b] below meth c H1 locs1 407 4557 Q (F0 m 1166 ls [])) : W p l e room_1 s m #[Value.ref b] below meth c H locs 407 4557 Q (F0 m 559 ls []) := by
  have hx := hE.1.1
  have hb := hE.1.2.1
  refine lv_aload_n hx hb dL_law_559 rfl (lv_at hl 2 rfl) ?_
  refine q_goi hW (q_runV (As := []) (rest := []) hE hW (c_X11_undo_tz l G σ x1 h1 (q_fr.sub hz (by decide) (by decide))) kw_L_76 (q_recv hE hW h1 rfl q_k11) rfl hl.1 rfl (Nat.le_of_ble_eq_true rfl) dL_law_560 ⟨by decide, by decide⟩ ⟨by decide, by decide⟩) (by decide) (fun kx1 ks2 H locs kp3 kf4 hW => ?_)
  refine lv_aload_n hx hb dL_law_563 rfl (lv_at hl 1 rfl) ?_
  refine q_goi hW (q_runV (As := []) (rest := [.int kx1]) hE hW (c_X12_undo_tz l G ks2 x2 h2 (q_fr.sub (q_fr.fr (q_fr.sub (F2 := [(40, 0), (40, 5), (40, 8), (40, 7), (40, 11), (40, 27), (40, 35)]) (A2 := [(46, 0, 54), (46, 57, 58), (46, 58, 59), (46, 59, 101), (55, 0, 2), (58, 0, 7), (63, 0, 3)]) hz (by decide) (by decide)) kf4 (by decide) (by decide)) (by decide) (by decide))) kw_L_79 (q_recv hE hW h2 rfl q_k12) rfl hl.1 rfl (Nat.le_of_ble_eq_true rfl) dL_law_564 ⟨by decide, by decide⟩ ⟨by decide, by decide⟩) (by decide) (fun kx5 ks6 H locs kp7 kf8 hW => ?_)
  refine lv_icmp_eq (tgt := 1166) hx hb dL_law_567 (by decide) (fun _ => ?_) (fun q_h => absurd (q_eqv kp3 kp7) q_h)
  exact kk _ _ _ hW
set_option maxHeartbeats 4000000 in
set_option maxRecDepth 100000 in
theorem law_k16 (l : Launch) (hE : q_E G p s m #[Value.ref b] c cL_law 4 RL) (hW : q_Wd G q_AT σ0 s.heap σ H locs) (hX : va_X b L xs s s.heap) (hbl : b < s.heap.size) (hbA : ¬ q_N G b) (h1 : q_T G x1 = 26) (h2 : q_T G x2 = 40) (hi : k_ix i L) (hz : q_fr G q_FF q_FA σ) (hl : lv_has ls 4 [(3, .int i), (2, .ref x2), (1, .ref x1), (0, .ref b)])
    (kk : ∀ (σ1 : q_S) (H1 : Heap) (locs1 : List Loc), q_Wd G q_AT σ0 s.heap σ1 H1 locs1 → W p l e room_1 s m #[Value.ref b] below meth c H1 locs1 407 4557 Q (F0 m 1166 ls [])) : W p l e room_1 s m #[Value.ref b] below meth c H locs 407 4557 Q (F0 m 572 ls []) := by
  have hx := hE.1.1
  have hb := hE.1.2.1
  refine lv_aload_n hx hb dL_law_572 rfl (lv_at hl 2 rfl) ?_
  refine lv_aload_n hx hb dL_law_573 rfl (lv_at hl 3 rfl) ?_
  refine lv_iload_n hx hb dL_law_574 rfl (lv_at hl 0 rfl) ?_
  refine lv_iconst (v := 1) hx hb dL_law_575 (by decide) ?_
  refine lv_iadd hx hb dL_law_576 ?_
  refine va_sld hx hb hX hbl hbA hW.2.2 (k_ixi hi 1 (by decide) (by decide)) dL_law_577 ?_
  refine q_goi hW (q_runV (As := [.int (xs (i + 1).toNatClampNeg)]) (rest := []) hE hW (c_X11_keep_tz l G σ x1 h1 (xs (i + 1).toNatClampNeg) (q_fr.sub hz (by decide) (by decide))) kw_L_80 (q_recv hE hW h1 rfl q_k11) rfl hl.1 rfl (Nat.le_of_ble_eq_true rfl) dL_law_578 ⟨by decide, by decide⟩ ⟨by decide, by decide⟩) (by decide) (fun kx1 ks2 H locs kp3 kf4 hW => ?_)
  refine lv_aload_n hx hb dL_law_581 rfl (lv_at hl 1 rfl) ?_
  refine lv_aload_n hx hb dL_law_582 rfl (lv_at hl 3 rfl) ?_
  refine lv_iload_n hx hb dL_law_583 rfl (lv_at hl 0 rfl) ?_
  refine lv_iconst (v := 1) hx hb dL_law_584 (by decide) ?_
  refine lv_iadd hx hb dL_law_585 ?_
  refine va_sld hx hb hX hbl hbA hW.2.2 (k_ixi hi 1 (by decide) (by decide)) dL_law_586 ?_
  refine q_goi hW (q_runV (As := [.int (xs (i + 1).toNatClampNeg)]) (rest := [.int kx1]) hE hW (c_X12_keep_tz l G ks2 x2 h2 (xs (i + 1).toNatClampNeg) (q_fr.sub (q_fr.fr (q_fr.sub (F2 := [(40, 0), (40, 5), (40, 8), (40, 7), (40, 11), (40, 27), (40, 35)]) (A2 := [(46, 0, 54), (46, 57, 58), (46, 58, 59), (46, 59, 101), (55, 0, 2), (58, 0, 7), (63, 0, 3)]) hz (by decide) (by decide)) kf4 (by decide) (by decide)) (by decide) (by decide))) kw_L_83 (q_recv hE hW h2 rfl q_k12) rfl hl.1 rfl (Nat.le_of_ble_eq_true rfl) dL_law_587 ⟨by decide, by decide⟩ ⟨by decide, by decide⟩) (by decide) (fun kx5 ks6 H locs kp7 kf8 hW => ?_)
  refine lv_icmp_eq (tgt := 1166) hx hb dL_law_590 (by decide) (fun _ => ?_) (fun q_h => absurd (kp3.2.trans kp7.2.symm) q_h)
  exact kk _ _ _ hW
set_option maxHeartbeats 4000000 in
set_option maxRecDepth 100000 in
theorem law_k17 (l : Launch) (hE : q_E G p s m #[Value.ref b] c cL_law 4 RL) (hW : q_Wd G q_AT σ0 s.heap σ H locs) (hX : va_X b L xs s s.heap) (hbl : b < s.heap.size) (hbA : ¬ q_N G b) (h1 : q_T G x1 = 26) (h2 : q_T G x2 = 40) (hi : k_ix i L) (hz : q_fr G q_FF q_FA σ) (hl : lv_has ls 4 [(3, .int i), (2, .ref x2), (1, .ref x1), (0, .ref b)])
    (kk : ∀ (σ1 : q_S) (H1 : Heap) (locs1 : List Loc), q_Wd G q_AT σ0 s.heap σ1 H1 locs1 → W p l e room_1 s m #[Value.ref b] below meth c H1 locs1 407 4557 Q (F0 m 1166 ls [])) : W p l e room_1 s m #[Value.ref b] below meth c H locs 407 4557 Q (F0 m 595 ls []) := by
  have hx := hE.1.1
  have hb := hE.1.2.1
  refine lv_aload_n hx hb dL_law_595 rfl (lv_at hl 2 rfl) ?_
  refine lv_aload_n hx hb dL_law_596 rfl (lv_at hl 3 rfl) ?_
  refine lv_iload_n hx hb dL_law_597 rfl (lv_at hl 0 rfl) ?_
  refine lv_iconst (v := 1) hx hb dL_law_598 (by decide) ?_
  refine lv_iadd hx hb dL_law_599 ?_
  refine va_sld hx hb hX hbl hbA hW.2.2 (k_ixi hi 1 (by decide) (by decide)) dL_law_600 ?_
  refine q_goi hW (q_runV (As := [.int (xs (i + 1).toNatClampNeg)]) (rest := []) hE hW (c_X11_back_tz l G σ x1 h1 (xs (i + 1).toNatClampNeg) (q_fr.sub hz (by decide) (by decide))) kw_L_84 (q_recv hE hW h1 rfl q_k11) rfl hl.1 rfl (Nat.le_of_ble_eq_true rfl) dL_law_601 ⟨by decide, by decide⟩ ⟨by decide, by decide⟩) (by decide) (fun kx1 ks2 H locs kp3 kf4 hW => ?_)
  refine lv_aload_n hx hb dL_law_604 rfl (lv_at hl 1 rfl) ?_
  refine lv_aload_n hx hb dL_law_605 rfl (lv_at hl 3 rfl) ?_
  refine lv_iload_n hx hb dL_law_606 rfl (lv_at hl 0 rfl) ?_
  refine lv_iconst (v := 1) hx hb dL_law_607 (by decide) ?_
  refine lv_iadd hx hb dL_law_608 ?_
  refine va_sld hx hb hX hbl hbA hW.2.2 (k_ixi hi 1 (by decide) (by decide)) dL_law_609 ?_
  refine q_goi hW (q_runV (As := [.int (xs (i + 1).toNatClampNeg)]) (rest := [.int kx1]) hE hW (c_X12_back_tz l G ks2 x2 h2 (xs (i + 1).toNatClampNeg) (q_fr.sub (q_fr.fr (q_fr.sub (F2 := [(40, 0), (40, 5), (40, 8), (40, 7), (40, 11), (40, 27), (40, 35)]) (A2 := [(46, 0, 54), (46, 57, 58), (46, 58, 59), (46, 59, 101), (55, 0, 2), (58, 0, 7), (63, 0, 3)]) hz (by decide) (by decide)) kf4 (by decide) (by decide)) (by decide) (by decide))) kw_L_87 (q_recv hE hW h2 rfl q_k12) rfl hl.1 rfl (Nat.le_of_ble_eq_true rfl) dL_law_610 ⟨by decide, by decide⟩ ⟨by decide, by decide⟩) (by decide) (fun kx5 ks6 H locs kp7 kf8 hW => ?_)
  refine lv_icmp_eq (tgt := 1166) hx hb dL_law_613 (by decide) (fun _ => ?_) (fun q_h => absurd (kp3.2.trans kp7.2.symm) q_h)
  exact kk _ _ _ hW
set_option maxHeartbeats 4000000 in
set_option maxRecDepth 100000 in
theorem law_k18 (l : Launch) (hE : q_E G p s m #[Value.ref b] c cL_law 4 RL) (hW : q_Wd G q_AT σ0 s.heap σ H locs) (hX : va_X b L xs s s.heap) (hbl : b < s.heap.size) (hbA : ¬ q_N G b) (h1 : q_T G x1 = 26) (h2 : q_T G x2 = 40) (hi : k_ix i L) (hz : q_fr G q_FF q_FA σ) (hl : lv_has ls 4 [(3, .int i), (2, .ref x2), (1, .ref x1), (0, .ref b)])
    (kk : ∀ (σ1 : q_S) (H1 : Heap) (locs1 : List Loc), q_Wd G q_AT σ0 s.heap σ1 H1 locs1 → W p l e room_1 s m #[Value.ref b] below meth c H1 locs1 407 4557 Q (F0 m 1166 ls [])) : W p l e room_1 s m #[Value.ref b] below meth c H locs 407 4557 Q (F0 m 618 ls []) := by
  have hx := hE.1.1
  have hb := hE.1.2.1
  refine lv_aload_n hx hb dL_law_618 rfl (lv_at hl 2 rfl) ?_
  refine lv_aload_n hx hb dL_law_619 rfl (lv_at hl 3 rfl) ?_
  refine lv_iload_n hx hb dL_law_620 rfl (lv_at hl 0 rfl) ?_
  refine lv_iconst (v := 1) hx hb dL_law_621 (by decide) ?_
  refine lv_iadd hx hb dL_law_622 ?_
  refine va_sld hx hb hX hbl hbA hW.2.2 (k_ixi hi 1 (by decide) (by decide)) dL_law_623 ?_
  refine lv_aload_n hx hb dL_law_624 rfl (lv_at hl 3 rfl) ?_
  refine lv_iload_n hx hb dL_law_625 rfl (lv_at hl 0 rfl) ?_
  refine lv_iconst (v := 2) hx hb dL_law_626 (by decide) ?_
  refine lv_iadd hx hb dL_law_627 ?_
  refine va_sld hx hb hX hbl hbA hW.2.2 (k_ixi hi 2 (by decide) (by decide)) dL_law_628 ?_
  refine q_goi hW (q_runV (As := [.int (xs (i + 1).toNatClampNeg), .int (xs (i + 2).toNatClampNeg)]) (rest := []) hE hW (c_X11_takes_tz l G σ x1 h1 (xs (i + 1).toNatClampNeg) (xs (i + 2).toNatClampNeg) (q_fr.sub hz (by decide) (by decide))) kw_L_88 (q_recv hE hW h1 rfl q_k11) rfl hl.1 rfl (Nat.le_of_ble_eq_true rfl) dL_law_629 ⟨by decide, by decide⟩ ⟨by decide, by decide⟩) (by decide) (fun kx1 ks2 H locs kp3 kf4 hW => ?_)
  refine lv_aload_n hx hb dL_law_632 rfl (lv_at hl 1 rfl) ?_
  refine lv_aload_n hx hb dL_law_633 rfl (lv_at hl 3 rfl) ?_
  refine lv_iload_n hx hb dL_law_634 rfl (lv_at hl 0 rfl) ?_
  refine lv_iconst (v := 1) hx hb dL_law_635 (by decide) ?_
  refine lv_iadd hx hb dL_law_636 ?_
  refine va_sld hx hb hX hbl hbA hW.2.2 (k_ixi hi 1 (by decide) (by decide)) dL_law_637 ?_
  refine lv_aload_n hx hb dL_law_638 rfl (lv_at hl 3 rfl) ?_
  refine lv_iload_n hx hb dL_law_639 rfl (lv_at hl 0 rfl) ?_
  refine lv_iconst (v := 2) hx hb dL_law_640 (by decide) ?_
  refine lv_iadd hx hb dL_law_641 ?_
  refine va_sld hx hb hX hbl hbA hW.2.2 (k_ixi hi 2 (by decide) (by decide)) dL_law_642 ?_
  refine q_goi hW (q_runV (As := [.int (xs (i + 1).toNatClampNeg), .int (xs (i + 2).toNatClampNeg)]) (rest := [.int kx1]) hE hW (c_X12_takes_tz l G ks2 x2 h2 (xs (i + 1).toNatClampNeg) (xs (i + 2).toNatClampNeg) (q_fr.sub (q_fr.fr (q_fr.sub (F2 := [(40, 0), (40, 5), (40, 8), (40, 7), (40, 11), (40, 27), (40, 35)]) (A2 := [(46, 0, 54), (46, 57, 58), (46, 58, 59), (46, 59, 101), (55, 0, 2), (58, 0, 7), (63, 0, 3)]) hz (by decide) (by decide)) kf4 (by decide) (by decide)) (by decide) (by decide))) kw_L_91 (q_recv hE hW h2 rfl q_k12) rfl hl.1 rfl (Nat.le_of_ble_eq_true rfl) dL_law_643 ⟨by decide, by decide⟩ ⟨by decide, by decide⟩) (by decide) (fun kx5 ks6 H locs kp7 kf8 hW => ?_)
  refine lv_icmp_eq (tgt := 1166) hx hb dL_law_646 (by decide) (fun _ => ?_) (fun q_h => absurd (q_eqv kp3 kp7) q_h)
  exact kk _ _ _ hW
set_option maxHeartbeats 4000000 in
set_option maxRecDepth 100000 in
theorem law_k19 (l : Launch) (hE : q_E G p s m #[Value.ref b] c cL_law 4 RL) (hW : q_Wd G q_AT σ0 s.heap σ H locs) (hX : va_X b L xs s s.heap) (hbl : b < s.heap.size) (hbA : ¬ q_N G b) (h1 : q_T G x1 = 26) (h2 : q_T G x2 = 40) (hi : k_ix i L) (hz : q_fr G q_FF q_FA σ) (hl : lv_has ls 4 [(3, .int i), (2, .ref x2), (1, .ref x1), (0, .ref b)])
    (kk : ∀ (σ1 : q_S) (H1 : Heap) (locs1 : List Loc), q_Wd G q_AT σ0 s.heap σ1 H1 locs1 → W p l e room_1 s m #[Value.ref b] below meth c H1 locs1 407 4557 Q (F0 m 1166 ls [])) : W p l e room_1 s m #[Value.ref b] below meth c H locs 407 4557 Q (F0 m 651 ls []) := by
  have hx := hE.1.1
  have hb := hE.1.2.1
  refine lv_aload_n hx hb dL_law_651 rfl (lv_at hl 2 rfl) ?_
  refine lv_aload_n hx hb dL_law_652 rfl (lv_at hl 3 rfl) ?_
  refine lv_iload_n hx hb dL_law_653 rfl (lv_at hl 0 rfl) ?_
  refine lv_iconst (v := 1) hx hb dL_law_654 (by decide) ?_
  refine lv_iadd hx hb dL_law_655 ?_
  refine va_sld hx hb hX hbl hbA hW.2.2 (k_ixi hi 1 (by decide) (by decide)) dL_law_656 ?_
  refine lv_aload_n hx hb dL_law_657 rfl (lv_at hl 3 rfl) ?_
  refine lv_iload_n hx hb dL_law_658 rfl (lv_at hl 0 rfl) ?_
  refine lv_iconst (v := 2) hx hb dL_law_659 (by decide) ?_
  refine lv_iadd hx hb dL_law_660 ?_
  refine va_sld hx hb hX hbl hbA hW.2.2 (k_ixi hi 2 (by decide) (by decide)) dL_law_661 ?_
  refine q_goi hW (q_runV (As := [.int (xs (i + 1).toNatClampNeg), .int (xs (i + 2).toNatClampNeg)]) (rest := []) hE hW (c_X11_later_tz l G σ x1 h1 (xs (i + 1).toNatClampNeg) (xs (i + 2).toNatClampNeg) (q_fr.sub hz (by decide) (by decide))) kw_L_92 (q_recv hE hW h1 rfl q_k11) rfl hl.1 rfl (Nat.le_of_ble_eq_true rfl) dL_law_662 ⟨by decide, by decide⟩ ⟨by decide, by decide⟩) (by decide) (fun kx1 ks2 H locs kp3 kf4 hW => ?_)
  refine lv_aload_n hx hb dL_law_665 rfl (lv_at hl 1 rfl) ?_
  refine lv_aload_n hx hb dL_law_666 rfl (lv_at hl 3 rfl) ?_
  refine lv_iload_n hx hb dL_law_667 rfl (lv_at hl 0 rfl) ?_
  refine lv_iconst (v := 1) hx hb dL_law_668 (by decide) ?_
  refine lv_iadd hx hb dL_law_669 ?_
  refine va_sld hx hb hX hbl hbA hW.2.2 (k_ixi hi 1 (by decide) (by decide)) dL_law_670 ?_
  refine lv_aload_n hx hb dL_law_671 rfl (lv_at hl 3 rfl) ?_
  refine lv_iload_n hx hb dL_law_672 rfl (lv_at hl 0 rfl) ?_
  refine lv_iconst (v := 2) hx hb dL_law_673 (by decide) ?_
  refine lv_iadd hx hb dL_law_674 ?_
  refine va_sld hx hb hX hbl hbA hW.2.2 (k_ixi hi 2 (by decide) (by decide)) dL_law_675 ?_
  refine q_goi hW (q_runV (As := [.int (xs (i + 1).toNatClampNeg), .int (xs (i + 2).toNatClampNeg)]) (rest := [.int kx1]) hE hW (c_X12_later_tz l G ks2 x2 h2 (xs (i + 1).toNatClampNeg) (xs (i + 2).toNatClampNeg) (q_fr.sub (q_fr.fr (q_fr.sub (F2 := [(40, 0), (40, 5), (40, 8), (40, 7), (40, 11), (40, 27), (40, 35)]) (A2 := [(46, 0, 54), (46, 57, 58), (46, 58, 59), (46, 59, 101), (55, 0, 2), (58, 0, 7), (63, 0, 3)]) hz (by decide) (by decide)) kf4 (by decide) (by decide)) (by decide) (by decide))) kw_L_95 (q_recv hE hW h2 rfl q_k12) rfl hl.1 rfl (Nat.le_of_ble_eq_true rfl) dL_law_676 ⟨by decide, by decide⟩ ⟨by decide, by decide⟩) (by decide) (fun kx5 ks6 H locs kp7 kf8 hW => ?_)
  refine lv_icmp_eq (tgt := 1166) hx hb dL_law_679 (by decide) (fun _ => ?_) (fun q_h => absurd (kp3.2.trans kp7.2.symm) q_h)
  exact kk _ _ _ hW
set_option maxHeartbeats 4000000 in
set_option maxRecDepth 100000 in
theorem law_k20 (l : Launch) (hE : q_E G p s m #[Value.ref b] c cL_law 4 RL) (hW : q_Wd G q_AT σ0 s.heap σ H locs) (hX : va_X b L xs s s.heap) (hbl : b < s.heap.size) (hbA : ¬ q_N G b) (h1 : q_T G x1 = 26) (h2 : q_T G x2 = 40) (hi : k_ix i L) (hz : q_fr G q_FF q_FA σ) (hl : lv_has ls 4 [(3, .int i), (2, .ref x2), (1, .ref x1), (0, .ref b)])
    (kk : ∀ (σ1 : q_S) (H1 : Heap) (locs1 : List Loc), q_Wd G q_AT σ0 s.heap σ1 H1 locs1 → W p l e room_1 s m #[Value.ref b] below meth c H1 locs1 407 4557 Q (F0 m 1166 ls [])) : W p l e room_1 s m #[Value.ref b] below meth c H locs 407 4557 Q (F0 m 684 ls []) := by
  have hx := hE.1.1
  have hb := hE.1.2.1
  refine lv_aload_n hx hb dL_law_684 rfl (lv_at hl 2 rfl) ?_
  refine lv_aload_n hx hb dL_law_685 rfl (lv_at hl 3 rfl) ?_
  refine lv_iload_n hx hb dL_law_686 rfl (lv_at hl 0 rfl) ?_
  refine lv_iconst (v := 1) hx hb dL_law_687 (by decide) ?_
  refine lv_iadd hx hb dL_law_688 ?_
  refine va_sld hx hb hX hbl hbA hW.2.2 (k_ixi hi 1 (by decide) (by decide)) dL_law_689 ?_
  refine lv_aload_n hx hb dL_law_690 rfl (lv_at hl 3 rfl) ?_
  refine lv_iload_n hx hb dL_law_691 rfl (lv_at hl 0 rfl) ?_
  refine lv_iconst (v := 2) hx hb dL_law_692 (by decide) ?_
  refine lv_iadd hx hb dL_law_693 ?_
  refine va_sld hx hb hX hbl hbA hW.2.2 (k_ixi hi 2 (by decide) (by decide)) dL_law_694 ?_
  refine q_goi hW (q_runV (As := [.int (xs (i + 1).toNatClampNeg), .int (xs (i + 2).toNatClampNeg)]) (rest := []) hE hW (c_X11_stands_tz l G σ x1 h1 (xs (i + 1).toNatClampNeg) (xs (i + 2).toNatClampNeg) (q_fr.sub hz (by decide) (by decide))) kw_L_96 (q_recv hE hW h1 rfl q_k11) rfl hl.1 rfl (Nat.le_of_ble_eq_true rfl) dL_law_695 ⟨by decide, by decide⟩ ⟨by decide, by decide⟩) (by decide) (fun kx1 ks2 H locs kp3 kf4 hW => ?_)
  refine lv_aload_n hx hb dL_law_698 rfl (lv_at hl 1 rfl) ?_
  refine lv_aload_n hx hb dL_law_699 rfl (lv_at hl 3 rfl) ?_
  refine lv_iload_n hx hb dL_law_700 rfl (lv_at hl 0 rfl) ?_
  refine lv_iconst (v := 1) hx hb dL_law_701 (by decide) ?_
  refine lv_iadd hx hb dL_law_702 ?_
  refine va_sld hx hb hX hbl hbA hW.2.2 (k_ixi hi 1 (by decide) (by decide)) dL_law_703 ?_
  refine lv_aload_n hx hb dL_law_704 rfl (lv_at hl 3 rfl) ?_
  refine lv_iload_n hx hb dL_law_705 rfl (lv_at hl 0 rfl) ?_
  refine lv_iconst (v := 2) hx hb dL_law_706 (by decide) ?_
  refine lv_iadd hx hb dL_law_707 ?_
  refine va_sld hx hb hX hbl hbA hW.2.2 (k_ixi hi 2 (by decide) (by decide)) dL_law_708 ?_
  refine q_goi hW (q_runV (As := [.int (xs (i + 1).toNatClampNeg), .int (xs (i + 2).toNatClampNeg)]) (rest := [.int kx1]) hE hW (c_X12_stands_tz l G ks2 x2 h2 (xs (i + 1).toNatClampNeg) (xs (i + 2).toNatClampNeg) (q_fr.sub (q_fr.fr (q_fr.sub (F2 := [(40, 0), (40, 5), (40, 8), (40, 7), (40, 11), (40, 27), (40, 35)]) (A2 := [(46, 0, 54), (46, 57, 58), (46, 58, 59), (46, 59, 101), (55, 0, 2), (58, 0, 7), (63, 0, 3)]) hz (by decide) (by decide)) kf4 (by decide) (by decide)) (by decide) (by decide))) kw_L_99 (q_recv hE hW h2 rfl q_k12) rfl hl.1 rfl (Nat.le_of_ble_eq_true rfl) dL_law_709 ⟨by decide, by decide⟩ ⟨by decide, by decide⟩) (by decide) (fun kx5 ks6 H locs kp7 kf8 hW => ?_)
  refine lv_icmp_eq (tgt := 1166) hx hb dL_law_712 (by decide) (fun _ => ?_) (fun q_h => absurd (kp3.2.trans kp7.2.symm) q_h)
  exact kk _ _ _ hW
set_option maxHeartbeats 4000000 in
set_option maxRecDepth 100000 in
theorem law_k21 (l : Launch) (hE : q_E G p s m #[Value.ref b] c cL_law 4 RL) (hW : q_Wd G q_AT σ0 s.heap σ H locs) (hX : va_X b L xs s s.heap) (hbl : b < s.heap.size) (hbA : ¬ q_N G b) (h1 : q_T G x1 = 26) (h2 : q_T G x2 = 40) (hi : k_ix i L) (hz : q_fr G q_FF q_FA σ) (hl : lv_has ls 4 [(3, .int i), (2, .ref x2), (1, .ref x1), (0, .ref b)])
    (kk : ∀ (σ1 : q_S) (H1 : Heap) (locs1 : List Loc), q_Wd G q_AT σ0 s.heap σ1 H1 locs1 → W p l e room_1 s m #[Value.ref b] below meth c H1 locs1 407 4557 Q (F0 m 1166 ls [])) : W p l e room_1 s m #[Value.ref b] below meth c H locs 407 4557 Q (F0 m 717 ls []) := by
  have hx := hE.1.1
  have hb := hE.1.2.1
  refine lv_aload_n hx hb dL_law_717 rfl (lv_at hl 2 rfl) ?_
  refine lv_aload_n hx hb dL_law_718 rfl (lv_at hl 3 rfl) ?_
  refine lv_iload_n hx hb dL_law_719 rfl (lv_at hl 0 rfl) ?_
  refine lv_iconst (v := 1) hx hb dL_law_720 (by decide) ?_
  refine lv_iadd hx hb dL_law_721 ?_
  refine va_sld hx hb hX hbl hbA hW.2.2 (k_ixi hi 1 (by decide) (by decide)) dL_law_722 ?_
  refine q_goi hW (q_runV (As := [.int (xs (i + 1).toNatClampNeg)]) (rest := []) hE hW (c_X11_plan_tz l G σ x1 h1 (xs (i + 1).toNatClampNeg) (q_fr.sub hz (by decide) (by decide))) kw_L_100 (q_recv hE hW h1 rfl q_k11) rfl hl.1 rfl (Nat.le_of_ble_eq_true rfl) dL_law_723 ⟨by decide, by decide⟩ ⟨by decide, by decide⟩) (by decide) (fun kx1 ks2 H locs kp3 kf4 hW => ?_)
  refine lv_aload_n hx hb dL_law_726 rfl (lv_at hl 1 rfl) ?_
  refine lv_aload_n hx hb dL_law_727 rfl (lv_at hl 3 rfl) ?_
  refine lv_iload_n hx hb dL_law_728 rfl (lv_at hl 0 rfl) ?_
  refine lv_iconst (v := 1) hx hb dL_law_729 (by decide) ?_
  refine lv_iadd hx hb dL_law_730 ?_
  refine va_sld hx hb hX hbl hbA hW.2.2 (k_ixi hi 1 (by decide) (by decide)) dL_law_731 ?_
  refine q_goi hW (q_runV (As := [.int (xs (i + 1).toNatClampNeg)]) (rest := [.int kx1]) hE hW (c_X12_plan_tz l G ks2 x2 h2 (xs (i + 1).toNatClampNeg) (q_fr.sub (q_fr.fr (q_fr.sub (F2 := [(40, 0), (40, 5), (40, 8), (40, 7), (40, 11), (40, 27), (40, 35)]) (A2 := [(46, 0, 54), (46, 57, 58), (46, 58, 59), (46, 59, 101), (55, 0, 2), (58, 0, 7), (63, 0, 3)]) hz (by decide) (by decide)) kf4 (by decide) (by decide)) (by decide) (by decide))) kw_L_103 (q_recv hE hW h2 rfl q_k12) rfl hl.1 rfl (Nat.le_of_ble_eq_true rfl) dL_law_732 ⟨by decide, by decide⟩ ⟨by decide, by decide⟩) (by decide) (fun kx5 ks6 H locs kp7 kf8 hW => ?_)
  refine lv_icmp_eq (tgt := 1166) hx hb dL_law_735 (by decide) (fun _ => ?_) (fun q_h => absurd (kp3.2.trans kp7.2.symm) q_h)
  exact kk _ _ _ hW
set_option maxHeartbeats 4000000 in
set_option maxRecDepth 100000 in
theorem law_k22 (l : Launch) (hE : q_E G p s m #[Value.ref b] c cL_law 4 RL) (hW : q_Wd G q_AT σ0 s.heap σ H locs) (hX : va_X b L xs s s.heap) (hbl : b < s.heap.size) (hbA : ¬ q_N G b) (h1 : q_T G x1 = 26) (h2 : q_T G x2 = 40) (hi : k_ix i L) (hz : q_fr G q_FF q_FA σ) (hl : lv_has ls 4 [(3, .int i), (2, .ref x2), (1, .ref x1), (0, .ref b)])
    (kk : ∀ (σ1 : q_S) (H1 : Heap) (locs1 : List Loc), q_Wd G q_AT σ0 s.heap σ1 H1 locs1 → W p l e room_1 s m #[Value.ref b] below meth c H1 locs1 407 4557 Q (F0 m 1166 ls [])) : W p l e room_1 s m #[Value.ref b] below meth c H locs 407 4557 Q (F0 m 740 ls []) := by
  have hx := hE.1.1
  have hb := hE.1.2.1
  refine lv_aload_n hx hb dL_law_740 rfl (lv_at hl 2 rfl) ?_
  refine lv_aload_n hx hb dL_law_741 rfl (lv_at hl 3 rfl) ?_
  refine lv_iload_n hx hb dL_law_742 rfl (lv_at hl 0 rfl) ?_
  refine lv_iconst (v := 1) hx hb dL_law_743 (by decide) ?_
  refine lv_iadd hx hb dL_law_744 ?_
  refine va_sld hx hb hX hbl hbA hW.2.2 (k_ixi hi 1 (by decide) (by decide)) dL_law_745 ?_
  refine q_goi hW (q_runV (As := [.int (xs (i + 1).toNatClampNeg)]) (rest := []) hE hW (c_X11_needed_tz l G σ x1 h1 (xs (i + 1).toNatClampNeg) (q_fr.sub hz (by decide) (by decide))) kw_L_104 (q_recv hE hW h1 rfl q_k11) rfl hl.1 rfl (Nat.le_of_ble_eq_true rfl) dL_law_746 ⟨by decide, by decide⟩ ⟨by decide, by decide⟩) (by decide) (fun kx1 ks2 H locs kp3 kf4 hW => ?_)
  refine lv_aload_n hx hb dL_law_749 rfl (lv_at hl 1 rfl) ?_
  refine lv_aload_n hx hb dL_law_750 rfl (lv_at hl 3 rfl) ?_
  refine lv_iload_n hx hb dL_law_751 rfl (lv_at hl 0 rfl) ?_
  refine lv_iconst (v := 1) hx hb dL_law_752 (by decide) ?_
  refine lv_iadd hx hb dL_law_753 ?_
  refine va_sld hx hb hX hbl hbA hW.2.2 (k_ixi hi 1 (by decide) (by decide)) dL_law_754 ?_
  refine q_goi hW (q_runV (As := [.int (xs (i + 1).toNatClampNeg)]) (rest := [.int kx1]) hE hW (c_X12_needed_tz l G ks2 x2 h2 (xs (i + 1).toNatClampNeg) (q_fr.sub (q_fr.fr (q_fr.sub (F2 := [(40, 0), (40, 5), (40, 8), (40, 7), (40, 11), (40, 27), (40, 35)]) (A2 := [(46, 0, 54), (46, 57, 58), (46, 58, 59), (46, 59, 101), (55, 0, 2), (58, 0, 7), (63, 0, 3)]) hz (by decide) (by decide)) kf4 (by decide) (by decide)) (by decide) (by decide))) kw_L_107 (q_recv hE hW h2 rfl q_k12) rfl hl.1 rfl (Nat.le_of_ble_eq_true rfl) dL_law_755 ⟨by decide, by decide⟩ ⟨by decide, by decide⟩) (by decide) (fun kx5 ks6 H locs kp7 kf8 hW => ?_)
  refine lv_icmp_eq (tgt := 1166) hx hb dL_law_758 (by decide) (fun _ => ?_) (fun q_h => absurd (kp3.2.trans kp7.2.symm) q_h)
  exact kk _ _ _ hW
set_option maxHeartbeats 4000000 in
set_option maxRecDepth 100000 in
theorem law_k23 (l : Launch) (hE : q_E G p s m #[Value.ref b] c cL_law 4 RL) (hW : q_Wd G q_AT σ0 s.heap σ H locs) (hX : va_X b L xs s s.heap) (hbl : b < s.heap.size) (hbA : ¬ q_N G b) (h1 : q_T G x1 = 26) (h2 : q_T G x2 = 40) (hi : k_ix i L) (hz : q_fr G q_FF q_FA σ) (hl : lv_has ls 4 [(3, .int i), (2, .ref x2), (1, .ref x1), (0, .ref b)])
    (kk : ∀ (σ1 : q_S) (H1 : Heap) (locs1 : List Loc), q_Wd G q_AT σ0 s.heap σ1 H1 locs1 → W p l e room_1 s m #[Value.ref b] below meth c H1 locs1 407 4557 Q (F0 m 1166 ls [])) : W p l e room_1 s m #[Value.ref b] below meth c H locs 407 4557 Q (F0 m 763 ls []) := by
  have hx := hE.1.1
  have hb := hE.1.2.1
  refine lv_aload_n hx hb dL_law_763 rfl (lv_at hl 2 rfl) ?_
  refine lv_aload_n hx hb dL_law_764 rfl (lv_at hl 3 rfl) ?_
  refine lv_iload_n hx hb dL_law_765 rfl (lv_at hl 0 rfl) ?_
  refine lv_iconst (v := 1) hx hb dL_law_766 (by decide) ?_
  refine lv_iadd hx hb dL_law_767 ?_
  refine va_sld hx hb hX hbl hbA hW.2.2 (k_ixi hi 1 (by decide) (by decide)) dL_law_768 ?_
  refine lv_aload_n hx hb dL_law_769 rfl (lv_at hl 3 rfl) ?_
  refine lv_iload_n hx hb dL_law_770 rfl (lv_at hl 0 rfl) ?_
  refine lv_iconst (v := 2) hx hb dL_law_771 (by decide) ?_
  refine lv_iadd hx hb dL_law_772 ?_
  refine va_sld hx hb hX hbl hbA hW.2.2 (k_ixi hi 2 (by decide) (by decide)) dL_law_773 ?_
  refine lv_aload_n hx hb dL_law_774 rfl (lv_at hl 3 rfl) ?_
  refine lv_iload_n hx hb dL_law_775 rfl (lv_at hl 0 rfl) ?_
  refine lv_iconst (v := 3) hx hb dL_law_776 (by decide) ?_
  refine lv_iadd hx hb dL_law_777 ?_
  refine va_sld hx hb hX hbl hbA hW.2.2 (k_ixi hi 3 (by decide) (by decide)) dL_law_778 ?_
  refine q_goi hW (q_runV (As := [.int (xs (i + 1).toNatClampNeg), .int (xs (i + 2).toNatClampNeg), .int (xs (i + 3).toNatClampNeg)]) (rest := []) hE hW (c_X11_seen_tz l G σ x1 h1 (xs (i + 1).toNatClampNeg) (xs (i + 2).toNatClampNeg) (xs (i + 3).toNatClampNeg) (q_fr.sub hz (by decide) (by decide))) kw_L_108 (q_recv hE hW h1 rfl q_k11) rfl hl.1 rfl (Nat.le_of_ble_eq_true rfl) dL_law_779 ⟨by decide, by decide⟩ ⟨by decide, by decide⟩) (by decide) (fun kx1 ks2 H locs kp3 kf4 hW => ?_)
  refine lv_aload_n hx hb dL_law_782 rfl (lv_at hl 1 rfl) ?_
  refine lv_aload_n hx hb dL_law_783 rfl (lv_at hl 3 rfl) ?_
  refine lv_iload_n hx hb dL_law_784 rfl (lv_at hl 0 rfl) ?_
  refine lv_iconst (v := 1) hx hb dL_law_785 (by decide) ?_
  refine lv_iadd hx hb dL_law_786 ?_
  refine va_sld hx hb hX hbl hbA hW.2.2 (k_ixi hi 1 (by decide) (by decide)) dL_law_787 ?_
  refine lv_aload_n hx hb dL_law_788 rfl (lv_at hl 3 rfl) ?_
  refine lv_iload_n hx hb dL_law_789 rfl (lv_at hl 0 rfl) ?_
  refine lv_iconst (v := 2) hx hb dL_law_790 (by decide) ?_
  refine lv_iadd hx hb dL_law_791 ?_
  refine va_sld hx hb hX hbl hbA hW.2.2 (k_ixi hi 2 (by decide) (by decide)) dL_law_792 ?_
  refine lv_aload_n hx hb dL_law_793 rfl (lv_at hl 3 rfl) ?_
  refine lv_iload_n hx hb dL_law_794 rfl (lv_at hl 0 rfl) ?_
  refine lv_iconst (v := 3) hx hb dL_law_795 (by decide) ?_
  refine lv_iadd hx hb dL_law_796 ?_
  refine va_sld hx hb hX hbl hbA hW.2.2 (k_ixi hi 3 (by decide) (by decide)) dL_law_797 ?_
  refine q_goi hW (q_runV (As := [.int (xs (i + 1).toNatClampNeg), .int (xs (i + 2).toNatClampNeg), .int (xs (i + 3).toNatClampNeg)]) (rest := [.int kx1]) hE hW (c_X12_seen_tz l G ks2 x2 h2 (xs (i + 1).toNatClampNeg) (xs (i + 2).toNatClampNeg) (xs (i + 3).toNatClampNeg) (q_fr.sub (q_fr.fr (q_fr.sub (F2 := [(40, 0), (40, 5), (40, 8), (40, 7), (40, 11), (40, 27), (40, 35)]) (A2 := [(46, 0, 54), (46, 57, 58), (46, 58, 59), (46, 59, 101), (55, 0, 2), (58, 0, 7), (63, 0, 3)]) hz (by decide) (by decide)) kf4 (by decide) (by decide)) (by decide) (by decide))) kw_L_112 (q_recv hE hW h2 rfl q_k12) rfl hl.1 rfl (Nat.le_of_ble_eq_true rfl) dL_law_798 ⟨by decide, by decide⟩ ⟨by decide, by decide⟩) (by decide) (fun kx5 ks6 H locs kp7 kf8 hW => ?_)
  refine lv_icmp_eq (tgt := 1166) hx hb dL_law_801 (by decide) (fun _ => ?_) (fun q_h => absurd (q_eqv kp3 kp7) q_h)
  exact kk _ _ _ hW
set_option maxHeartbeats 4000000 in
set_option maxRecDepth 100000 in
theorem law_k24 (l : Launch) (hE : q_E G p s m #[Value.ref b] c cL_law 4 RL) (hW : q_Wd G q_AT σ0 s.heap σ H locs) (hX : va_X b L xs s s.heap) (hbl : b < s.heap.size) (hbA : ¬ q_N G b) (h1 : q_T G x1 = 26) (h2 : q_T G x2 = 40) (hi : k_ix i L) (hz : q_fr G q_FF q_FA σ) (hl : lv_has ls 4 [(3, .int i), (2, .ref x2), (1, .ref x1), (0, .ref b)])
    (kk : ∀ (σ1 : q_S) (H1 : Heap) (locs1 : List Loc), q_Wd G q_AT σ0 s.heap σ1 H1 locs1 → W p l e room_1 s m #[Value.ref b] below meth c H1 locs1 407 4557 Q (F0 m 1166 ls [])) : W p l e room_1 s m #[Value.ref b] below meth c H locs 407 4557 Q (F0 m 806 ls []) := by
  have hx := hE.1.1
  have hb := hE.1.2.1
  refine lv_aload_n hx hb dL_law_806 rfl (lv_at hl 2 rfl) ?_
  refine q_goi hW (q_runV (As := []) (rest := []) hE hW (c_X11_forget_tz l G σ x1 h1 (q_fr.sub hz (by decide) (by decide))) kw_L_113 (q_recv hE hW h1 rfl q_k11) rfl hl.1 rfl (Nat.le_of_ble_eq_true rfl) dL_law_807 ⟨by decide, by decide⟩ ⟨by decide, by decide⟩) (by decide) (fun kx1 ks2 H locs kp3 kf4 hW => ?_)
  refine lv_aload_n hx hb dL_law_810 rfl (lv_at hl 1 rfl) ?_
  refine q_goi hW (q_runV (As := []) (rest := [.int kx1]) hE hW (c_X12_forget_tz l G ks2 x2 h2 (q_fr.sub (q_fr.fr (q_fr.sub (F2 := [(40, 0), (40, 5), (40, 8), (40, 7), (40, 11), (40, 27), (40, 35)]) (A2 := [(46, 0, 54), (46, 57, 58), (46, 58, 59), (46, 59, 101), (55, 0, 2), (58, 0, 7), (63, 0, 3)]) hz (by decide) (by decide)) kf4 (by decide) (by decide)) (by decide) (by decide))) kw_L_116 (q_recv hE hW h2 rfl q_k12) rfl hl.1 rfl (Nat.le_of_ble_eq_true rfl) dL_law_811 ⟨by decide, by decide⟩ ⟨by decide, by decide⟩) (by decide) (fun kx5 ks6 H locs kp7 kf8 hW => ?_)
  refine lv_icmp_eq (tgt := 1166) hx hb dL_law_814 (by decide) (fun _ => ?_) (fun q_h => absurd (q_eqv kp3 kp7) q_h)
  exact kk _ _ _ hW
set_option maxHeartbeats 4000000 in
set_option maxRecDepth 100000 in
theorem law_k25 (l : Launch) (hE : q_E G p s m #[Value.ref b] c cL_law 4 RL) (hW : q_Wd G q_AT σ0 s.heap σ H locs) (hX : va_X b L xs s s.heap) (hbl : b < s.heap.size) (hbA : ¬ q_N G b) (h1 : q_T G x1 = 26) (h2 : q_T G x2 = 40) (hi : k_ix i L) (hz : q_fr G q_FF q_FA σ) (hl : lv_has ls 4 [(3, .int i), (2, .ref x2), (1, .ref x1), (0, .ref b)])
    (kk : ∀ (σ1 : q_S) (H1 : Heap) (locs1 : List Loc), q_Wd G q_AT σ0 s.heap σ1 H1 locs1 → W p l e room_1 s m #[Value.ref b] below meth c H1 locs1 407 4557 Q (F0 m 1166 ls [])) : W p l e room_1 s m #[Value.ref b] below meth c H locs 407 4557 Q (F0 m 819 ls []) := by
  have hx := hE.1.1
  have hb := hE.1.2.1
  refine lv_aload_n hx hb dL_law_819 rfl (lv_at hl 2 rfl) ?_
  refine lv_aload_n hx hb dL_law_820 rfl (lv_at hl 3 rfl) ?_
  refine lv_iload_n hx hb dL_law_821 rfl (lv_at hl 0 rfl) ?_
  refine lv_iconst (v := 1) hx hb dL_law_822 (by decide) ?_
  refine lv_iadd hx hb dL_law_823 ?_
  refine va_sld hx hb hX hbl hbA hW.2.2 (k_ixi hi 1 (by decide) (by decide)) dL_law_824 ?_
  refine q_goi hW (q_runV (As := [.int (xs (i + 1).toNatClampNeg)]) (rest := []) hE hW (c_X11_kinds_tz l G σ x1 h1 (xs (i + 1).toNatClampNeg) (q_fr.sub hz (by decide) (by decide))) kw_L_117 (q_recv hE hW h1 rfl q_k11) rfl hl.1 rfl (Nat.le_of_ble_eq_true rfl) dL_law_825 ⟨by decide, by decide⟩ ⟨by decide, by decide⟩) (by decide) (fun kx1 ks2 H locs kp3 kf4 hW => ?_)
  refine lv_aload_n hx hb dL_law_828 rfl (lv_at hl 1 rfl) ?_
  refine lv_aload_n hx hb dL_law_829 rfl (lv_at hl 3 rfl) ?_
  refine lv_iload_n hx hb dL_law_830 rfl (lv_at hl 0 rfl) ?_
  refine lv_iconst (v := 1) hx hb dL_law_831 (by decide) ?_
  refine lv_iadd hx hb dL_law_832 ?_
  refine va_sld hx hb hX hbl hbA hW.2.2 (k_ixi hi 1 (by decide) (by decide)) dL_law_833 ?_
  refine q_goi hW (q_runV (As := [.int (xs (i + 1).toNatClampNeg)]) (rest := [.int kx1]) hE hW (c_X12_kinds_tz l G ks2 x2 h2 (xs (i + 1).toNatClampNeg) (q_fr.sub (q_fr.fr (q_fr.sub (F2 := [(40, 0), (40, 5), (40, 8), (40, 7), (40, 11), (40, 27), (40, 35)]) (A2 := [(46, 0, 54), (46, 57, 58), (46, 58, 59), (46, 59, 101), (55, 0, 2), (58, 0, 7), (63, 0, 3)]) hz (by decide) (by decide)) kf4 (by decide) (by decide)) (by decide) (by decide))) kw_L_120 (q_recv hE hW h2 rfl q_k12) rfl hl.1 rfl (Nat.le_of_ble_eq_true rfl) dL_law_834 ⟨by decide, by decide⟩ ⟨by decide, by decide⟩) (by decide) (fun kx5 ks6 H locs kp7 kf8 hW => ?_)
  refine lv_icmp_eq (tgt := 1166) hx hb dL_law_837 (by decide) (fun _ => ?_) (fun q_h => absurd (q_eqv kp3 kp7) q_h)
  exact kk _ _ _ hW
set_option maxHeartbeats 4000000 in
set_option maxRecDepth 100000 in
theorem law_k26 (l : Launch) (hE : q_E G p s m #[Value.ref b] c cL_law 4 RL) (hW : q_Wd G q_AT σ0 s.heap σ H locs) (hX : va_X b L xs s s.heap) (hbl : b < s.heap.size) (hbA : ¬ q_N G b) (h1 : q_T G x1 = 26) (h2 : q_T G x2 = 40) (hi : k_ix i L) (hz : q_fr G q_FF q_FA σ) (hl : lv_has ls 4 [(3, .int i), (2, .ref x2), (1, .ref x1), (0, .ref b)])
    (kk : ∀ (σ1 : q_S) (H1 : Heap) (locs1 : List Loc), q_Wd G q_AT σ0 s.heap σ1 H1 locs1 → W p l e room_1 s m #[Value.ref b] below meth c H1 locs1 407 4557 Q (F0 m 1166 ls [])) : W p l e room_1 s m #[Value.ref b] below meth c H locs 407 4557 Q (F0 m 842 ls []) := by
  have hx := hE.1.1
  have hb := hE.1.2.1
  refine lv_aload_n hx hb dL_law_842 rfl (lv_at hl 2 rfl) ?_
  refine lv_aload_n hx hb dL_law_843 rfl (lv_at hl 3 rfl) ?_
  refine lv_iload_n hx hb dL_law_844 rfl (lv_at hl 0 rfl) ?_
  refine lv_iconst (v := 1) hx hb dL_law_845 (by decide) ?_
  refine lv_iadd hx hb dL_law_846 ?_
  refine va_sld hx hb hX hbl hbA hW.2.2 (k_ixi hi 1 (by decide) (by decide)) dL_law_847 ?_
  refine lv_aload_n hx hb dL_law_848 rfl (lv_at hl 3 rfl) ?_
  refine lv_iload_n hx hb dL_law_849 rfl (lv_at hl 0 rfl) ?_
  refine lv_iconst (v := 2) hx hb dL_law_850 (by decide) ?_
  refine lv_iadd hx hb dL_law_851 ?_
  refine va_sld hx hb hX hbl hbA hW.2.2 (k_ixi hi 2 (by decide) (by decide)) dL_law_852 ?_
  refine lv_aload_n hx hb dL_law_853 rfl (lv_at hl 3 rfl) ?_
  refine lv_iload_n hx hb dL_law_854 rfl (lv_at hl 0 rfl) ?_
  refine lv_iconst (v := 3) hx hb dL_law_855 (by decide) ?_
  refine lv_iadd hx hb dL_law_856 ?_
  refine va_sld hx hb hX hbl hbA hW.2.2 (k_ixi hi 3 (by decide) (by decide)) dL_law_857 ?_
  refine lv_aload_n hx hb dL_law_858 rfl (lv_at hl 3 rfl) ?_
  refine lv_iload_n hx hb dL_law_859 rfl (lv_at hl 0 rfl) ?_
  refine lv_iconst (v := 4) hx hb dL_law_860 (by decide) ?_
  refine lv_iadd hx hb dL_law_861 ?_
  refine va_sld hx hb hX hbl hbA hW.2.2 (k_ixi hi 4 (by decide) (by decide)) dL_law_862 ?_
  refine q_goi hW (q_runV (As := [.int (xs (i + 1).toNatClampNeg), .int (xs (i + 2).toNatClampNeg), .int (xs (i + 3).toNatClampNeg), .int (xs (i + 4).toNatClampNeg)]) (rest := []) hE hW (c_X11_lightning l G σ x1 h1 (xs (i + 1).toNatClampNeg) (xs (i + 2).toNatClampNeg) (xs (i + 3).toNatClampNeg) (xs (i + 4).toNatClampNeg)) kw_L_121 (q_recv hE hW h1 rfl q_k11) rfl hl.1 rfl (Nat.le_of_ble_eq_true rfl) dL_law_863 ⟨by decide, by decide⟩ ⟨by decide, by decide⟩) (by decide) (fun kx1 ks2 H locs kp3 kf4 hW => ?_)
  refine lv_aload_n hx hb dL_law_866 rfl (lv_at hl 1 rfl) ?_
  refine lv_aload_n hx hb dL_law_867 rfl (lv_at hl 3 rfl) ?_
  refine lv_iload_n hx hb dL_law_868 rfl (lv_at hl 0 rfl) ?_
  refine lv_iconst (v := 1) hx hb dL_law_869 (by decide) ?_
  refine lv_iadd hx hb dL_law_870 ?_
  refine va_sld hx hb hX hbl hbA hW.2.2 (k_ixi hi 1 (by decide) (by decide)) dL_law_871 ?_
  refine lv_aload_n hx hb dL_law_872 rfl (lv_at hl 3 rfl) ?_
  refine lv_iload_n hx hb dL_law_873 rfl (lv_at hl 0 rfl) ?_
  refine lv_iconst (v := 2) hx hb dL_law_874 (by decide) ?_
  refine lv_iadd hx hb dL_law_875 ?_
  refine va_sld hx hb hX hbl hbA hW.2.2 (k_ixi hi 2 (by decide) (by decide)) dL_law_876 ?_
  refine lv_aload_n hx hb dL_law_877 rfl (lv_at hl 3 rfl) ?_
  refine lv_iload_n hx hb dL_law_878 rfl (lv_at hl 0 rfl) ?_
  refine lv_iconst (v := 3) hx hb dL_law_879 (by decide) ?_
  refine lv_iadd hx hb dL_law_880 ?_
  refine va_sld hx hb hX hbl hbA hW.2.2 (k_ixi hi 3 (by decide) (by decide)) dL_law_881 ?_
  refine lv_aload_n hx hb dL_law_882 rfl (lv_at hl 3 rfl) ?_
  refine lv_iload_n hx hb dL_law_883 rfl (lv_at hl 0 rfl) ?_
  refine lv_iconst (v := 4) hx hb dL_law_884 (by decide) ?_
  refine lv_iadd hx hb dL_law_885 ?_
  refine va_sld hx hb hX hbl hbA hW.2.2 (k_ixi hi 4 (by decide) (by decide)) dL_law_886 ?_
  refine q_goi hW (q_runV (As := [.int (xs (i + 1).toNatClampNeg), .int (xs (i + 2).toNatClampNeg), .int (xs (i + 3).toNatClampNeg), .int (xs (i + 4).toNatClampNeg)]) (rest := [.int kx1]) hE hW (c_X12_lightning l G ks2 x2 h2 (xs (i + 1).toNatClampNeg) (xs (i + 2).toNatClampNeg) (xs (i + 3).toNatClampNeg) (xs (i + 4).toNatClampNeg)) kw_L_125 (q_recv hE hW h2 rfl q_k12) rfl hl.1 rfl (Nat.le_of_ble_eq_true rfl) dL_law_887 ⟨by decide, by decide⟩ ⟨by decide, by decide⟩) (by decide) (fun kx5 ks6 H locs kp7 kf8 hW => ?_)
  refine lv_icmp_eq (tgt := 1166) hx hb dL_law_890 (by decide) (fun _ => ?_) (fun q_h => absurd (by rw [kp3.2, kp7.2]; exact k11_12 _ _ _ _) q_h)
  exact kk _ _ _ hW
set_option maxHeartbeats 4000000 in
set_option maxRecDepth 100000 in
theorem law_k27 (l : Launch) (hE : q_E G p s m #[Value.ref b] c cL_law 4 RL) (hW : q_Wd G q_AT σ0 s.heap σ H locs) (hX : va_X b L xs s s.heap) (hbl : b < s.heap.size) (hbA : ¬ q_N G b) (h1 : q_T G x1 = 26) (h2 : q_T G x2 = 40) (hi : k_ix i L) (hz : q_fr G q_FF q_FA σ) (hl : lv_has ls 4 [(3, .int i), (2, .ref x2), (1, .ref x1), (0, .ref b)])
    (kk : ∀ (σ1 : q_S) (H1 : Heap) (locs1 : List Loc), q_Wd G q_AT σ0 s.heap σ1 H1 locs1 → W p l e room_1 s m #[Value.ref b] below meth c H1 locs1 407 4557 Q (F0 m 1166 ls [])) : W p l e room_1 s m #[Value.ref b] below meth c H locs 407 4557 Q (F0 m 895 ls []) := by
  have hx := hE.1.1
  have hb := hE.1.2.1
  refine lv_aload_n hx hb dL_law_895 rfl (lv_at hl 2 rfl) ?_
  refine lv_aload_n hx hb dL_law_896 rfl (lv_at hl 3 rfl) ?_
  refine lv_iload_n hx hb dL_law_897 rfl (lv_at hl 0 rfl) ?_
  refine lv_iconst (v := 1) hx hb dL_law_898 (by decide) ?_
  refine lv_iadd hx hb dL_law_899 ?_
  refine va_sld hx hb hX hbl hbA hW.2.2 (k_ixi hi 1 (by decide) (by decide)) dL_law_900 ?_
  refine lv_aload_n hx hb dL_law_901 rfl (lv_at hl 3 rfl) ?_
  refine lv_iload_n hx hb dL_law_902 rfl (lv_at hl 0 rfl) ?_
  refine lv_iconst (v := 2) hx hb dL_law_903 (by decide) ?_
  refine lv_iadd hx hb dL_law_904 ?_
  refine va_sld hx hb hX hbl hbA hW.2.2 (k_ixi hi 2 (by decide) (by decide)) dL_law_905 ?_
  refine lv_aload_n hx hb dL_law_906 rfl (lv_at hl 3 rfl) ?_
  refine lv_iload_n hx hb dL_law_907 rfl (lv_at hl 0 rfl) ?_
  refine lv_iconst (v := 3) hx hb dL_law_908 (by decide) ?_
  refine lv_iadd hx hb dL_law_909 ?_
  refine va_sld hx hb hX hbl hbA hW.2.2 (k_ixi hi 3 (by decide) (by decide)) dL_law_910 ?_
  refine q_goi hW (q_runV (As := [.int (xs (i + 1).toNatClampNeg), .int (xs (i + 2).toNatClampNeg), .int (xs (i + 3).toNatClampNeg)]) (rest := []) hE hW (c_X11_line_tx l G σ x1 h1 (xs (i + 1).toNatClampNeg) (xs (i + 2).toNatClampNeg) (xs (i + 3).toNatClampNeg)) kw_L_126 (q_recv hE hW h1 rfl q_k11) rfl hl.1 rfl (Nat.le_of_ble_eq_true rfl) dL_law_911 ⟨by decide, by decide⟩ ⟨by decide, by decide⟩) (by decide) (fun kx1 ks2 H locs kp3 kf4 hW => ?_)
  refine lv_aload_n hx hb dL_law_914 rfl (lv_at hl 1 rfl) ?_
  refine lv_aload_n hx hb dL_law_915 rfl (lv_at hl 3 rfl) ?_
  refine lv_iload_n hx hb dL_law_916 rfl (lv_at hl 0 rfl) ?_
  refine lv_iconst (v := 1) hx hb dL_law_917 (by decide) ?_
  refine lv_iadd hx hb dL_law_918 ?_
  refine va_sld hx hb hX hbl hbA hW.2.2 (k_ixi hi 1 (by decide) (by decide)) dL_law_919 ?_
  refine lv_aload_n hx hb dL_law_920 rfl (lv_at hl 3 rfl) ?_
  refine lv_iload_n hx hb dL_law_921 rfl (lv_at hl 0 rfl) ?_
  refine lv_iconst (v := 2) hx hb dL_law_922 (by decide) ?_
  refine lv_iadd hx hb dL_law_923 ?_
  refine va_sld hx hb hX hbl hbA hW.2.2 (k_ixi hi 2 (by decide) (by decide)) dL_law_924 ?_
  refine lv_aload_n hx hb dL_law_925 rfl (lv_at hl 3 rfl) ?_
  refine lv_iload_n hx hb dL_law_926 rfl (lv_at hl 0 rfl) ?_
  refine lv_iconst (v := 3) hx hb dL_law_927 (by decide) ?_
  refine lv_iadd hx hb dL_law_928 ?_
  refine va_sld hx hb hX hbl hbA hW.2.2 (k_ixi hi 3 (by decide) (by decide)) dL_law_929 ?_
  refine q_goi hW (q_runV (As := [.int (xs (i + 1).toNatClampNeg), .int (xs (i + 2).toNatClampNeg), .int (xs (i + 3).toNatClampNeg)]) (rest := [.int kx1]) hE hW (c_X12_line_tx l G ks2 x2 h2 (xs (i + 1).toNatClampNeg) (xs (i + 2).toNatClampNeg) (xs (i + 3).toNatClampNeg)) kw_L_129 (q_recv hE hW h2 rfl q_k12) rfl hl.1 rfl (Nat.le_of_ble_eq_true rfl) dL_law_930 ⟨by decide, by decide⟩ ⟨by decide, by decide⟩) (by decide) (fun kx5 ks6 H locs kp7 kf8 hW => ?_)
  refine lv_icmp_eq (tgt := 1166) hx hb dL_law_933 (by decide) (fun _ => ?_) (fun q_h => absurd (kp3.2.trans kp7.2.symm) q_h)
  exact kk _ _ _ hW
set_option maxHeartbeats 4000000 in
set_option maxRecDepth 100000 in
theorem law_k28 (l : Launch) (hE : q_E G p s m #[Value.ref b] c cL_law 4 RL) (hW : q_Wd G q_AT σ0 s.heap σ H locs) (hX : va_X b L xs s s.heap) (hbl : b < s.heap.size) (hbA : ¬ q_N G b) (h1 : q_T G x1 = 26) (h2 : q_T G x2 = 40) (hi : k_ix i L) (hz : q_fr G q_FF q_FA σ) (hl : lv_has ls 4 [(3, .int i), (2, .ref x2), (1, .ref x1), (0, .ref b)])
    (kk : ∀ (σ1 : q_S) (H1 : Heap) (locs1 : List Loc), q_Wd G q_AT σ0 s.heap σ1 H1 locs1 → W p l e room_1 s m #[Value.ref b] below meth c H1 locs1 407 4557 Q (F0 m 1166 ls [])) : W p l e room_1 s m #[Value.ref b] below meth c H locs 407 4557 Q (F0 m 938 ls []) := by
  have hx := hE.1.1
  have hb := hE.1.2.1
  refine lv_aload_n hx hb dL_law_938 rfl (lv_at hl 2 rfl) ?_
  refine lv_aload_n hx hb dL_law_939 rfl (lv_at hl 3 rfl) ?_
  refine lv_iload_n hx hb dL_law_940 rfl (lv_at hl 0 rfl) ?_
  refine lv_iconst (v := 1) hx hb dL_law_941 (by decide) ?_
  refine lv_iadd hx hb dL_law_942 ?_
  refine va_sld hx hb hX hbl hbA hW.2.2 (k_ixi hi 1 (by decide) (by decide)) dL_law_943 ?_
  refine lv_aload_n hx hb dL_law_944 rfl (lv_at hl 3 rfl) ?_
  refine lv_iload_n hx hb dL_law_945 rfl (lv_at hl 0 rfl) ?_
  refine lv_iconst (v := 2) hx hb dL_law_946 (by decide) ?_
  refine lv_iadd hx hb dL_law_947 ?_
  refine va_sld hx hb hX hbl hbA hW.2.2 (k_ixi hi 2 (by decide) (by decide)) dL_law_948 ?_
  refine lv_aload_n hx hb dL_law_949 rfl (lv_at hl 3 rfl) ?_
  refine lv_iload_n hx hb dL_law_950 rfl (lv_at hl 0 rfl) ?_
  refine lv_iconst (v := 3) hx hb dL_law_951 (by decide) ?_
  refine lv_iadd hx hb dL_law_952 ?_
  refine va_sld hx hb hX hbl hbA hW.2.2 (k_ixi hi 3 (by decide) (by decide)) dL_law_953 ?_
  refine lv_aload_n hx hb dL_law_954 rfl (lv_at hl 3 rfl) ?_
  refine lv_iload_n hx hb dL_law_955 rfl (lv_at hl 0 rfl) ?_
  refine lv_iconst (v := 4) hx hb dL_law_956 (by decide) ?_
  refine lv_iadd hx hb dL_law_957 ?_
  refine va_sld hx hb hX hbl hbA hW.2.2 (k_ixi hi 4 (by decide) (by decide)) dL_law_958 ?_
  refine q_goi hW (q_runV (As := [.int (xs (i + 1).toNatClampNeg), .int (xs (i + 2).toNatClampNeg), .int (xs (i + 3).toNatClampNeg), .int (xs (i + 4).toNatClampNeg)]) (rest := []) hE hW (c_X11_pin_tz l G σ x1 h1 (xs (i + 1).toNatClampNeg) (xs (i + 2).toNatClampNeg) (xs (i + 3).toNatClampNeg) (xs (i + 4).toNatClampNeg) (q_fr.sub hz (by decide) (by decide))) kw_L_130 (q_recv hE hW h1 rfl q_k11) rfl hl.1 rfl (Nat.le_of_ble_eq_true rfl) dL_law_959 ⟨by decide, by decide⟩ ⟨by decide, by decide⟩) (by decide) (fun kx1 ks2 H locs kp3 kf4 hW => ?_)
  refine lv_aload_n hx hb dL_law_962 rfl (lv_at hl 1 rfl) ?_
  refine lv_aload_n hx hb dL_law_963 rfl (lv_at hl 3 rfl) ?_
  refine lv_iload_n hx hb dL_law_964 rfl (lv_at hl 0 rfl) ?_
  refine lv_iconst (v := 1) hx hb dL_law_965 (by decide) ?_
  refine lv_iadd hx hb dL_law_966 ?_
  refine va_sld hx hb hX hbl hbA hW.2.2 (k_ixi hi 1 (by decide) (by decide)) dL_law_967 ?_
  refine lv_aload_n hx hb dL_law_968 rfl (lv_at hl 3 rfl) ?_
  refine lv_iload_n hx hb dL_law_969 rfl (lv_at hl 0 rfl) ?_
  refine lv_iconst (v := 2) hx hb dL_law_970 (by decide) ?_
  refine lv_iadd hx hb dL_law_971 ?_
  refine va_sld hx hb hX hbl hbA hW.2.2 (k_ixi hi 2 (by decide) (by decide)) dL_law_972 ?_
  refine lv_aload_n hx hb dL_law_973 rfl (lv_at hl 3 rfl) ?_
  refine lv_iload_n hx hb dL_law_974 rfl (lv_at hl 0 rfl) ?_
  refine lv_iconst (v := 3) hx hb dL_law_975 (by decide) ?_
  refine lv_iadd hx hb dL_law_976 ?_
  refine va_sld hx hb hX hbl hbA hW.2.2 (k_ixi hi 3 (by decide) (by decide)) dL_law_977 ?_
  refine lv_aload_n hx hb dL_law_978 rfl (lv_at hl 3 rfl) ?_
  refine lv_iload_n hx hb dL_law_979 rfl (lv_at hl 0 rfl) ?_
  refine lv_iconst (v := 4) hx hb dL_law_980 (by decide) ?_
  refine lv_iadd hx hb dL_law_981 ?_
  refine va_sld hx hb hX hbl hbA hW.2.2 (k_ixi hi 4 (by decide) (by decide)) dL_law_982 ?_
  refine q_goi hW (q_runV (As := [.int (xs (i + 1).toNatClampNeg), .int (xs (i + 2).toNatClampNeg), .int (xs (i + 3).toNatClampNeg), .int (xs (i + 4).toNatClampNeg)]) (rest := [.int kx1]) hE hW (c_X12_pin_tz l G ks2 x2 h2 (xs (i + 1).toNatClampNeg) (xs (i + 2).toNatClampNeg) (xs (i + 3).toNatClampNeg) (xs (i + 4).toNatClampNeg) (q_fr.sub (q_fr.fr (q_fr.sub (F2 := [(40, 0), (40, 5), (40, 8), (40, 7), (40, 11), (40, 27), (40, 35)]) (A2 := [(46, 0, 54), (46, 57, 58), (46, 58, 59), (46, 59, 101), (55, 0, 2), (58, 0, 7), (63, 0, 3)]) hz (by decide) (by decide)) kf4 (by decide) (by decide)) (by decide) (by decide))) kw_L_133 (q_recv hE hW h2 rfl q_k12) rfl hl.1 rfl (Nat.le_of_ble_eq_true rfl) dL_law_983 ⟨by decide, by decide⟩ ⟨by decide, by decide⟩) (by decide) (fun kx5 ks6 H locs kp7 kf8 hW => ?_)
  refine lv_icmp_eq (tgt := 1166) hx hb dL_law_986 (by decide) (fun _ => ?_) (fun q_h => absurd (kp3.2.trans kp7.2.symm) q_h)
  exact kk _ _ _ hW
set_option maxHeartbeats 4000000 in
set_option maxRecDepth 100000 in
theorem law_k29 (l : Launch) (hE : q_E G p s m #[Value.ref b] c cL_law 4 RL) (hW : q_Wd G q_AT σ0 s.heap σ H locs) (hX : va_X b L xs s s.heap) (hbl : b < s.heap.size) (hbA : ¬ q_N G b) (h1 : q_T G x1 = 26) (h2 : q_T G x2 = 40) (hi : k_ix i L) (hz : q_fr G q_FF q_FA σ) (hl : lv_has ls 4 [(3, .int i), (2, .ref x2), (1, .ref x1), (0, .ref b)])
    (kk : ∀ (σ1 : q_S) (H1 : Heap) (locs1 : List Loc), q_Wd G q_AT σ0 s.heap σ1 H1 locs1 → W p l e room_1 s m #[Value.ref b] below meth c H1 locs1 407 4557 Q (F0 m 1166 ls [])) : W p l e room_1 s m #[Value.ref b] below meth c H locs 407 4557 Q (F0 m 991 ls []) := by
  have hx := hE.1.1
  have hb := hE.1.2.1
  refine lv_aload_n hx hb dL_law_991 rfl (lv_at hl 2 rfl) ?_
  refine lv_aload_n hx hb dL_law_992 rfl (lv_at hl 3 rfl) ?_
  refine lv_iload_n hx hb dL_law_993 rfl (lv_at hl 0 rfl) ?_
  refine lv_iconst (v := 1) hx hb dL_law_994 (by decide) ?_
  refine lv_iadd hx hb dL_law_995 ?_
  refine va_sld hx hb hX hbl hbA hW.2.2 (k_ixi hi 1 (by decide) (by decide)) dL_law_996 ?_
  refine lv_aload_n hx hb dL_law_997 rfl (lv_at hl 3 rfl) ?_
  refine lv_iload_n hx hb dL_law_998 rfl (lv_at hl 0 rfl) ?_
  refine lv_iconst (v := 2) hx hb dL_law_999 (by decide) ?_
  refine lv_iadd hx hb dL_law_1000 ?_
  refine va_sld hx hb hX hbl hbA hW.2.2 (k_ixi hi 2 (by decide) (by decide)) dL_law_1001 ?_
  refine lv_aload_n hx hb dL_law_1002 rfl (lv_at hl 3 rfl) ?_
  refine lv_iload_n hx hb dL_law_1003 rfl (lv_at hl 0 rfl) ?_
  refine lv_iconst (v := 3) hx hb dL_law_1004 (by decide) ?_
  refine lv_iadd hx hb dL_law_1005 ?_
  refine va_sld hx hb hX hbl hbA hW.2.2 (k_ixi hi 3 (by decide) (by decide)) dL_law_1006 ?_
  refine q_goi hW (q_runV (As := [.int (xs (i + 1).toNatClampNeg), .int (xs (i + 2).toNatClampNeg), .int (xs (i + 3).toNatClampNeg)]) (rest := []) hE hW (c_X11_peg_tz l G σ x1 h1 (xs (i + 1).toNatClampNeg) (xs (i + 2).toNatClampNeg) (xs (i + 3).toNatClampNeg) (q_fr.sub hz (by decide) (by decide))) kw_L_134 (q_recv hE hW h1 rfl q_k11) rfl hl.1 rfl (Nat.le_of_ble_eq_true rfl) dL_law_1007 ⟨by decide, by decide⟩ ⟨by decide, by decide⟩) (by decide) (fun kx1 ks2 H locs kp3 kf4 hW => ?_)
  refine lv_aload_n hx hb dL_law_1010 rfl (lv_at hl 1 rfl) ?_
  refine lv_aload_n hx hb dL_law_1011 rfl (lv_at hl 3 rfl) ?_
  refine lv_iload_n hx hb dL_law_1012 rfl (lv_at hl 0 rfl) ?_
  refine lv_iconst (v := 1) hx hb dL_law_1013 (by decide) ?_
  refine lv_iadd hx hb dL_law_1014 ?_
  refine va_sld hx hb hX hbl hbA hW.2.2 (k_ixi hi 1 (by decide) (by decide)) dL_law_1015 ?_
  refine lv_aload_n hx hb dL_law_1016 rfl (lv_at hl 3 rfl) ?_
  refine lv_iload_n hx hb dL_law_1017 rfl (lv_at hl 0 rfl) ?_
  refine lv_iconst (v := 2) hx hb dL_law_1018 (by decide) ?_
  refine lv_iadd hx hb dL_law_1019 ?_
  refine va_sld hx hb hX hbl hbA hW.2.2 (k_ixi hi 2 (by decide) (by decide)) dL_law_1020 ?_
  refine lv_aload_n hx hb dL_law_1021 rfl (lv_at hl 3 rfl) ?_
  refine lv_iload_n hx hb dL_law_1022 rfl (lv_at hl 0 rfl) ?_
  refine lv_iconst (v := 3) hx hb dL_law_1023 (by decide) ?_
  refine lv_iadd hx hb dL_law_1024 ?_
  refine va_sld hx hb hX hbl hbA hW.2.2 (k_ixi hi 3 (by decide) (by decide)) dL_law_1025 ?_
  refine q_goi hW (q_runV (As := [.int (xs (i + 1).toNatClampNeg), .int (xs (i + 2).toNatClampNeg), .int (xs (i + 3).toNatClampNeg)]) (rest := [.int kx1]) hE hW (c_X12_peg_tz l G ks2 x2 h2 (xs (i + 1).toNatClampNeg) (xs (i + 2).toNatClampNeg) (xs (i + 3).toNatClampNeg) (q_fr.sub (q_fr.fr (q_fr.sub (F2 := [(40, 0), (40, 5), (40, 8), (40, 7), (40, 11), (40, 27), (40, 35)]) (A2 := [(46, 0, 54), (46, 57, 58), (46, 58, 59), (46, 59, 101), (55, 0, 2), (58, 0, 7), (63, 0, 3)]) hz (by decide) (by decide)) kf4 (by decide) (by decide)) (by decide) (by decide))) kw_L_137 (q_recv hE hW h2 rfl q_k12) rfl hl.1 rfl (Nat.le_of_ble_eq_true rfl) dL_law_1026 ⟨by decide, by decide⟩ ⟨by decide, by decide⟩) (by decide) (fun kx5 ks6 H locs kp7 kf8 hW => ?_)
  refine lv_icmp_eq (tgt := 1166) hx hb dL_law_1029 (by decide) (fun _ => ?_) (fun q_h => absurd (kp3.2.trans kp7.2.symm) q_h)
  exact kk _ _ _ hW
set_option maxHeartbeats 4000000 in
set_option maxRecDepth 100000 in
theorem law_k30 (l : Launch) (hE : q_E G p s m #[Value.ref b] c cL_law 4 RL) (hW : q_Wd G q_AT σ0 s.heap σ H locs) (hX : va_X b L xs s s.heap) (hbl : b < s.heap.size) (hbA : ¬ q_N G b) (h1 : q_T G x1 = 26) (h2 : q_T G x2 = 40) (hi : k_ix i L) (hz : q_fr G q_FF q_FA σ) (hl : lv_has ls 4 [(3, .int i), (2, .ref x2), (1, .ref x1), (0, .ref b)])
    (kk : ∀ (σ1 : q_S) (H1 : Heap) (locs1 : List Loc), q_Wd G q_AT σ0 s.heap σ1 H1 locs1 → W p l e room_1 s m #[Value.ref b] below meth c H1 locs1 407 4557 Q (F0 m 1166 ls [])) : W p l e room_1 s m #[Value.ref b] below meth c H locs 407 4557 Q (F0 m 1034 ls []) := by
  have hx := hE.1.1
  have hb := hE.1.2.1
  refine lv_aload_n hx hb dL_law_1034 rfl (lv_at hl 2 rfl) ?_
  refine lv_aload_n hx hb dL_law_1035 rfl (lv_at hl 3 rfl) ?_
  refine lv_iload_n hx hb dL_law_1036 rfl (lv_at hl 0 rfl) ?_
  refine lv_iconst (v := 1) hx hb dL_law_1037 (by decide) ?_
  refine lv_iadd hx hb dL_law_1038 ?_
  refine va_sld hx hb hX hbl hbA hW.2.2 (k_ixi hi 1 (by decide) (by decide)) dL_law_1039 ?_
  refine lv_aload_n hx hb dL_law_1040 rfl (lv_at hl 3 rfl) ?_
  refine lv_iload_n hx hb dL_law_1041 rfl (lv_at hl 0 rfl) ?_
  refine lv_iconst (v := 2) hx hb dL_law_1042 (by decide) ?_
  refine lv_iadd hx hb dL_law_1043 ?_
  refine va_sld hx hb hX hbl hbA hW.2.2 (k_ixi hi 2 (by decide) (by decide)) dL_law_1044 ?_
  refine lv_aload_n hx hb dL_law_1045 rfl (lv_at hl 3 rfl) ?_
  refine lv_iload_n hx hb dL_law_1046 rfl (lv_at hl 0 rfl) ?_
  refine lv_iconst (v := 3) hx hb dL_law_1047 (by decide) ?_
  refine lv_iadd hx hb dL_law_1048 ?_
  refine va_sld hx hb hX hbl hbA hW.2.2 (k_ixi hi 3 (by decide) (by decide)) dL_law_1049 ?_
  refine lv_aload_n hx hb dL_law_1050 rfl (lv_at hl 3 rfl) ?_
  refine lv_iload_n hx hb dL_law_1051 rfl (lv_at hl 0 rfl) ?_
  refine lv_iconst (v := 4) hx hb dL_law_1052 (by decide) ?_
  refine lv_iadd hx hb dL_law_1053 ?_
  refine va_sld hx hb hX hbl hbA hW.2.2 (k_ixi hi 4 (by decide) (by decide)) dL_law_1054 ?_
  refine lv_aload_n hx hb dL_law_1055 rfl (lv_at hl 3 rfl) ?_
  refine lv_iload_n hx hb dL_law_1056 rfl (lv_at hl 0 rfl) ?_
  refine lv_iconst (v := 5) hx hb dL_law_1057 (by decide) ?_
  refine lv_iadd hx hb dL_law_1058 ?_
  refine va_sld hx hb hX hbl hbA hW.2.2 (k_ixi hi 5 (by decide) (by decide)) dL_law_1059 ?_
  refine q_goi hW (q_runV (As := [.int (xs (i + 1).toNatClampNeg), .int (xs (i + 2).toNatClampNeg), .int (xs (i + 3).toNatClampNeg), .int (xs (i + 4).toNatClampNeg), .int (xs (i + 5).toNatClampNeg)]) (rest := []) hE hW (c_X11_move_tz l G σ x1 h1 (xs (i + 1).toNatClampNeg) (xs (i + 2).toNatClampNeg) (xs (i + 3).toNatClampNeg) (xs (i + 4).toNatClampNeg) (xs (i + 5).toNatClampNeg) (q_fr.sub hz (by decide) (by decide))) kw_L_138 (q_recv hE hW h1 rfl q_k11) rfl hl.1 rfl (Nat.le_of_ble_eq_true rfl) dL_law_1060 ⟨by decide, by decide⟩ ⟨by decide, by decide⟩) (by decide) (fun kx1 ks2 H locs kp3 kf4 hW => ?_)
  refine lv_aload_n hx hb dL_law_1063 rfl (lv_at hl 1 rfl) ?_
  refine lv_aload_n hx hb dL_law_1064 rfl (lv_at hl 3 rfl) ?_
  refine lv_iload_n hx hb dL_law_1065 rfl (lv_at hl 0 rfl) ?_
  refine lv_iconst (v := 1) hx hb dL_law_1066 (by decide) ?_
  refine lv_iadd hx hb dL_law_1067 ?_
  refine va_sld hx hb hX hbl hbA hW.2.2 (k_ixi hi 1 (by decide) (by decide)) dL_law_1068 ?_
  refine lv_aload_n hx hb dL_law_1069 rfl (lv_at hl 3 rfl) ?_
  refine lv_iload_n hx hb dL_law_1070 rfl (lv_at hl 0 rfl) ?_
  refine lv_iconst (v := 2) hx hb dL_law_1071 (by decide) ?_
  refine lv_iadd hx hb dL_law_1072 ?_
  refine va_sld hx hb hX hbl hbA hW.2.2 (k_ixi hi 2 (by decide) (by decide)) dL_law_1073 ?_
  refine lv_aload_n hx hb dL_law_1074 rfl (lv_at hl 3 rfl) ?_
  refine lv_iload_n hx hb dL_law_1075 rfl (lv_at hl 0 rfl) ?_
  refine lv_iconst (v := 3) hx hb dL_law_1076 (by decide) ?_
  refine lv_iadd hx hb dL_law_1077 ?_
  refine va_sld hx hb hX hbl hbA hW.2.2 (k_ixi hi 3 (by decide) (by decide)) dL_law_1078 ?_
  refine lv_aload_n hx hb dL_law_1079 rfl (lv_at hl 3 rfl) ?_
  refine lv_iload_n hx hb dL_law_1080 rfl (lv_at hl 0 rfl) ?_
  refine lv_iconst (v := 4) hx hb dL_law_1081 (by decide) ?_
  refine lv_iadd hx hb dL_law_1082 ?_
  refine va_sld hx hb hX hbl hbA hW.2.2 (k_ixi hi 4 (by decide) (by decide)) dL_law_1083 ?_
  refine lv_aload_n hx hb dL_law_1084 rfl (lv_at hl 3 rfl) ?_
  refine lv_iload_n hx hb dL_law_1085 rfl (lv_at hl 0 rfl) ?_
  refine lv_iconst (v := 5) hx hb dL_law_1086 (by decide) ?_
  refine lv_iadd hx hb dL_law_1087 ?_
  refine va_sld hx hb hX hbl hbA hW.2.2 (k_ixi hi 5 (by decide) (by decide)) dL_law_1088 ?_
  refine q_goi hW (q_runV (As := [.int (xs (i + 1).toNatClampNeg), .int (xs (i + 2).toNatClampNeg), .int (xs (i + 3).toNatClampNeg), .int (xs (i + 4).toNatClampNeg), .int (xs (i + 5).toNatClampNeg)]) (rest := [.int kx1]) hE hW (c_X12_move_tz l G ks2 x2 h2 (xs (i + 1).toNatClampNeg) (xs (i + 2).toNatClampNeg) (xs (i + 3).toNatClampNeg) (xs (i + 4).toNatClampNeg) (xs (i + 5).toNatClampNeg) (q_fr.sub (q_fr.fr (q_fr.sub (F2 := [(40, 0), (40, 5), (40, 8), (40, 7), (40, 11), (40, 27), (40, 35)]) (A2 := [(46, 0, 54), (46, 57, 58), (46, 58, 59), (46, 59, 101), (55, 0, 2), (58, 0, 7), (63, 0, 3)]) hz (by decide) (by decide)) kf4 (by decide) (by decide)) (by decide) (by decide))) kw_L_142 (q_recv hE hW h2 rfl q_k12) rfl hl.1 rfl (Nat.le_of_ble_eq_true rfl) dL_law_1089 ⟨by decide, by decide⟩ ⟨by decide, by decide⟩) (by decide) (fun kx5 ks6 H locs kp7 kf8 hW => ?_)
  refine lv_icmp_eq (tgt := 1166) hx hb dL_law_1092 (by decide) (fun _ => ?_) (fun q_h => absurd (kp3.2.trans kp7.2.symm) q_h)
  exact kk _ _ _ hW
set_option maxHeartbeats 4000000 in
set_option maxRecDepth 100000 in
theorem law_k31 (l : Launch) (hE : q_E G p s m #[Value.ref b] c cL_law 4 RL) (hW : q_Wd G q_AT σ0 s.heap σ H locs) (hX : va_X b L xs s s.heap) (hbl : b < s.heap.size) (hbA : ¬ q_N G b) (h1 : q_T G x1 = 26) (h2 : q_T G x2 = 40) (hi : k_ix i L) (hz : q_fr G q_FF q_FA σ) (hl : lv_has ls 4 [(3, .int i), (2, .ref x2), (1, .ref x1), (0, .ref b)])
    (kk : ∀ (σ1 : q_S) (H1 : Heap) (locs1 : List Loc), q_Wd G q_AT σ0 s.heap σ1 H1 locs1 → W p l e room_1 s m #[Value.ref b] below meth c H1 locs1 407 4557 Q (F0 m 1166 ls [])) : W p l e room_1 s m #[Value.ref b] below meth c H locs 407 4557 Q (F0 m 1097 ls []) := by
  have hx := hE.1.1
  have hb := hE.1.2.1
  refine lv_aload_n hx hb dL_law_1097 rfl (lv_at hl 2 rfl) ?_
  refine lv_aload_n hx hb dL_law_1098 rfl (lv_at hl 3 rfl) ?_
  refine lv_iload_n hx hb dL_law_1099 rfl (lv_at hl 0 rfl) ?_
  refine lv_iconst (v := 1) hx hb dL_law_1100 (by decide) ?_
  refine lv_iadd hx hb dL_law_1101 ?_
  refine va_sld hx hb hX hbl hbA hW.2.2 (k_ixi hi 1 (by decide) (by decide)) dL_law_1102 ?_
  refine q_goi hW (q_runV (As := [.int (xs (i + 1).toNatClampNeg)]) (rest := []) hE hW (c_X11_drop_tz l G σ x1 h1 (xs (i + 1).toNatClampNeg) (q_fr.sub hz (by decide) (by decide))) kw_L_143 (q_recv hE hW h1 rfl q_k11) rfl hl.1 rfl (Nat.le_of_ble_eq_true rfl) dL_law_1103 ⟨by decide, by decide⟩ ⟨by decide, by decide⟩) (by decide) (fun kx1 ks2 H locs kp3 kf4 hW => ?_)
  refine lv_aload_n hx hb dL_law_1106 rfl (lv_at hl 1 rfl) ?_
  refine lv_aload_n hx hb dL_law_1107 rfl (lv_at hl 3 rfl) ?_
  refine lv_iload_n hx hb dL_law_1108 rfl (lv_at hl 0 rfl) ?_
  refine lv_iconst (v := 1) hx hb dL_law_1109 (by decide) ?_
  refine lv_iadd hx hb dL_law_1110 ?_
  refine va_sld hx hb hX hbl hbA hW.2.2 (k_ixi hi 1 (by decide) (by decide)) dL_law_1111 ?_
  refine q_goi hW (q_runV (As := [.int (xs (i + 1).toNatClampNeg)]) (rest := [.int kx1]) hE hW (c_X12_drop_tz l G ks2 x2 h2 (xs (i + 1).toNatClampNeg) (q_fr.sub (q_fr.fr (q_fr.sub (F2 := [(40, 0), (40, 5), (40, 8), (40, 7), (40, 11), (40, 27), (40, 35)]) (A2 := [(46, 0, 54), (46, 57, 58), (46, 58, 59), (46, 59, 101), (55, 0, 2), (58, 0, 7), (63, 0, 3)]) hz (by decide) (by decide)) kf4 (by decide) (by decide)) (by decide) (by decide))) kw_L_146 (q_recv hE hW h2 rfl q_k12) rfl hl.1 rfl (Nat.le_of_ble_eq_true rfl) dL_law_1112 ⟨by decide, by decide⟩ ⟨by decide, by decide⟩) (by decide) (fun kx5 ks6 H locs kp7 kf8 hW => ?_)
  refine lv_icmp_eq (tgt := 1166) hx hb dL_law_1115 (by decide) (fun _ => ?_) (fun q_h => absurd (kp3.2.trans kp7.2.symm) q_h)
  exact kk _ _ _ hW
set_option maxHeartbeats 4000000 in
set_option maxRecDepth 100000 in
theorem law_k32 (l : Launch) (hE : q_E G p s m #[Value.ref b] c cL_law 4 RL) (hW : q_Wd G q_AT σ0 s.heap σ H locs) (hX : va_X b L xs s s.heap) (hbl : b < s.heap.size) (hbA : ¬ q_N G b) (h1 : q_T G x1 = 26) (h2 : q_T G x2 = 40) (hi : k_ix i L) (hz : q_fr G q_FF q_FA σ) (hl : lv_has ls 4 [(3, .int i), (2, .ref x2), (1, .ref x1), (0, .ref b)])
    (kk : ∀ (σ1 : q_S) (H1 : Heap) (locs1 : List Loc), q_Wd G q_AT σ0 s.heap σ1 H1 locs1 → W p l e room_1 s m #[Value.ref b] below meth c H1 locs1 407 4557 Q (F0 m 1166 ls [])) : W p l e room_1 s m #[Value.ref b] below meth c H locs 407 4557 Q (F0 m 1120 ls []) := by
  have hx := hE.1.1
  have hb := hE.1.2.1
  refine lv_aload_n hx hb dL_law_1120 rfl (lv_at hl 2 rfl) ?_
  refine lv_aload_n hx hb dL_law_1121 rfl (lv_at hl 3 rfl) ?_
  refine lv_iload_n hx hb dL_law_1122 rfl (lv_at hl 0 rfl) ?_
  refine lv_iconst (v := 1) hx hb dL_law_1123 (by decide) ?_
  refine lv_iadd hx hb dL_law_1124 ?_
  refine va_sld hx hb hX hbl hbA hW.2.2 (k_ixi hi 1 (by decide) (by decide)) dL_law_1125 ?_
  refine q_goi hW (q_runV (As := [.int (xs (i + 1).toNatClampNeg)]) (rest := []) hE hW (c_X11_sum_tz l G σ x1 h1 (xs (i + 1).toNatClampNeg) (q_fr.sub hz (by decide) (by decide))) kw_L_147 (q_recv hE hW h1 rfl q_k11) rfl hl.1 rfl (Nat.le_of_ble_eq_true rfl) dL_law_1126 ⟨by decide, by decide⟩ ⟨by decide, by decide⟩) (by decide) (fun kx1 ks2 H locs kp3 kf4 hW => ?_)
  refine lv_aload_n hx hb dL_law_1129 rfl (lv_at hl 1 rfl) ?_
  refine lv_aload_n hx hb dL_law_1130 rfl (lv_at hl 3 rfl) ?_
  refine lv_iload_n hx hb dL_law_1131 rfl (lv_at hl 0 rfl) ?_
  refine lv_iconst (v := 1) hx hb dL_law_1132 (by decide) ?_
  refine lv_iadd hx hb dL_law_1133 ?_
  refine va_sld hx hb hX hbl hbA hW.2.2 (k_ixi hi 1 (by decide) (by decide)) dL_law_1134 ?_
  refine q_goi hW (q_runV (As := [.int (xs (i + 1).toNatClampNeg)]) (rest := [.int kx1]) hE hW (c_X12_sum_tz l G ks2 x2 h2 (xs (i + 1).toNatClampNeg) (q_fr.sub (q_fr.fr (q_fr.sub (F2 := [(40, 0), (40, 5), (40, 8), (40, 7), (40, 11), (40, 27), (40, 35)]) (A2 := [(46, 0, 54), (46, 57, 58), (46, 58, 59), (46, 59, 101), (55, 0, 2), (58, 0, 7), (63, 0, 3)]) hz (by decide) (by decide)) kf4 (by decide) (by decide)) (by decide) (by decide))) kw_L_150 (q_recv hE hW h2 rfl q_k12) rfl hl.1 rfl (Nat.le_of_ble_eq_true rfl) dL_law_1135 ⟨by decide, by decide⟩ ⟨by decide, by decide⟩) (by decide) (fun kx5 ks6 H locs kp7 kf8 hW => ?_)
  refine lv_icmp_eq (tgt := 1166) hx hb dL_law_1138 (by decide) (fun _ => ?_) (fun q_h => absurd (kp3.2.trans kp7.2.symm) q_h)
  exact kk _ _ _ hW
set_option maxHeartbeats 4000000 in
set_option maxRecDepth 100000 in
theorem law_k33 (l : Launch) (hE : q_E G p s m #[Value.ref b] c cL_law 4 RL) (hW : q_Wd G q_AT σ0 s.heap σ H locs) (hX : va_X b L xs s s.heap) (hbl : b < s.heap.size) (hbA : ¬ q_N G b) (h1 : q_T G x1 = 26) (h2 : q_T G x2 = 40) (hi : k_ix i L) (hz : q_fr G q_FF q_FA σ) (hl : lv_has ls 4 [(3, .int i), (2, .ref x2), (1, .ref x1), (0, .ref b)])
    (kk : ∀ (σ1 : q_S) (H1 : Heap) (locs1 : List Loc), q_Wd G q_AT σ0 s.heap σ1 H1 locs1 → W p l e room_1 s m #[Value.ref b] below meth c H1 locs1 407 4557 Q (F0 m 1166 ls [])) : W p l e room_1 s m #[Value.ref b] below meth c H locs 407 4557 Q (F0 m 1143 ls []) := by
  have hx := hE.1.1
  have hb := hE.1.2.1
  refine lv_aload_n hx hb dL_law_1143 rfl (lv_at hl 2 rfl) ?_
  refine lv_aload_n hx hb dL_law_1144 rfl (lv_at hl 3 rfl) ?_
  refine lv_iload_n hx hb dL_law_1145 rfl (lv_at hl 0 rfl) ?_
  refine lv_iconst (v := 1) hx hb dL_law_1146 (by decide) ?_
  refine lv_iadd hx hb dL_law_1147 ?_
  refine va_sld hx hb hX hbl hbA hW.2.2 (k_ixi hi 1 (by decide) (by decide)) dL_law_1148 ?_
  refine q_goi hW (q_runV (As := [.int (xs (i + 1).toNatClampNeg)]) (rest := []) hE hW (c_X11_count_tz l G σ x1 h1 (xs (i + 1).toNatClampNeg) (q_fr.sub hz (by decide) (by decide))) kw_L_151 (q_recv hE hW h1 rfl q_k11) rfl hl.1 rfl (Nat.le_of_ble_eq_true rfl) dL_law_1149 ⟨by decide, by decide⟩ ⟨by decide, by decide⟩) (by decide) (fun kx1 ks2 H locs kp3 kf4 hW => ?_)
  refine lv_aload_n hx hb dL_law_1152 rfl (lv_at hl 1 rfl) ?_
  refine lv_aload_n hx hb dL_law_1153 rfl (lv_at hl 3 rfl) ?_
  refine lv_iload_n hx hb dL_law_1154 rfl (lv_at hl 0 rfl) ?_
  refine lv_iconst (v := 1) hx hb dL_law_1155 (by decide) ?_
  refine lv_iadd hx hb dL_law_1156 ?_
  refine va_sld hx hb hX hbl hbA hW.2.2 (k_ixi hi 1 (by decide) (by decide)) dL_law_1157 ?_
  refine q_goi hW (q_runV (As := [.int (xs (i + 1).toNatClampNeg)]) (rest := [.int kx1]) hE hW (c_X12_count_tz l G ks2 x2 h2 (xs (i + 1).toNatClampNeg) (q_fr.sub (q_fr.fr (q_fr.sub (F2 := [(40, 0), (40, 5), (40, 8), (40, 7), (40, 11), (40, 27), (40, 35)]) (A2 := [(46, 0, 54), (46, 57, 58), (46, 58, 59), (46, 59, 101), (55, 0, 2), (58, 0, 7), (63, 0, 3)]) hz (by decide) (by decide)) kf4 (by decide) (by decide)) (by decide) (by decide))) kw_L_154 (q_recv hE hW h2 rfl q_k12) rfl hl.1 rfl (Nat.le_of_ble_eq_true rfl) dL_law_1158 ⟨by decide, by decide⟩ ⟨by decide, by decide⟩) (by decide) (fun kx5 ks6 H locs kp7 kf8 hW => ?_)
  refine lv_icmp_eq (tgt := 1166) hx hb dL_law_1161 (by decide) (fun _ => ?_) (fun q_h => absurd (kp3.2.trans kp7.2.symm) q_h)
  exact kk _ _ _ hW
end LAW
