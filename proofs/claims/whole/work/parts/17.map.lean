abbrev R_BM_isMode : Room := { frames := 0, cells := 0, slots := 0, locals := 0 }
set_option maxHeartbeats 4000000 in
set_option maxRecDepth 100000 in
theorem c_BM_isMode (ad : Nat → Nat) (cA : ClassId) (s : zT) (mode : Int32) (most : Int32) : xct cA yX3_isMode cX3_isMode 2 (some .boolean) R_BM_isMode [.int mode, .int most] (wd ad cA s) (some (.int (zb (mBM_isMode mode most)))) (wd ad cA (s)) := by
  refine xct_of (own := RX3) (by decide) rfl (Nat.le_of_ble_eq_true rfl) (fun X hX => ?_)
  show xs X cA RX3 cX3_isMode 2 (some .boolean) R_BM_isMode (wd ad cA s) 0 0 0 [(0, .int mode), (1, .int most)] []
  refine xs_iload_n 0 dX3_isMode_0 rfl ?_
  refine xs_iconst (v := 2) dX3_isMode_1 (by decide) ?_
  refine xs_icmp_ne (t := 23) dX3_isMode_2 (by decide) (fun c2 => ?_) (fun c2 => ?_)
  · refine xs_iload_n 0 dX3_isMode_23 rfl ?_
    refine xs_if_lt (t := 40) dX3_isMode_24 (by decide) (fun c24 => ?_) (fun c24 => ?_)
    · refine xs_iconst (v := zb false) dX3_isMode_40 rfl ?_
      exact xs_zret hX rfl dX3_isMode_41 (by simp [mBM_isMode, c2, c24]) rfl
    · refine xs_iload_n 0 dX3_isMode_27 rfl ?_
      refine xs_iconst (v := 2) dX3_isMode_28 (by decide) ?_
      refine xs_icmp_ge (t := 40) dX3_isMode_29 (by decide) (fun c29 => ?_) (fun c29 => ?_)
      · refine xs_iconst (v := zb false) dX3_isMode_40 rfl ?_
        exact xs_zret hX rfl dX3_isMode_41 (by simp [mBM_isMode, c2, c24, c29]) rfl
      · refine xs_iload_n 1 dX3_isMode_32 rfl ?_
        refine xs_if_ne (t := 40) dX3_isMode_33 (by decide) (fun c33 => ?_) (fun c33 => ?_)
        · refine xs_iconst (v := zb false) dX3_isMode_40 rfl ?_
          exact xs_zret hX rfl dX3_isMode_41 (by simp [mBM_isMode, c2, c24, c29, c33]) rfl
        · refine xs_iconst (v := zb true) dX3_isMode_36 rfl ?_
          refine xs_goto (t := 41) dX3_isMode_37 (by decide) ?_
          exact xs_zret hX rfl dX3_isMode_41 (by simp [mBM_isMode, c2, c24, c29, c33]) rfl
  · refine xs_iload_n 1 dX3_isMode_5 rfl ?_
    refine xs_iconst (v := 1) dX3_isMode_6 (by decide) ?_
    refine xs_icmp_lt (t := 21) dX3_isMode_7 (by decide) (fun c7 => ?_) (fun c7 => ?_)
    · refine xs_iconst (v := zb false) dX3_isMode_21 rfl ?_
      exact xs_zret hX rfl dX3_isMode_22 (by simp [mBM_isMode, c2, c7]) rfl
    · refine xs_iload_n 1 dX3_isMode_10 rfl ?_
      refine xs_sipush (v := 2000) dX3_isMode_11 (by decide) ?_
      refine xs_icmp_gt (t := 21) dX3_isMode_14 (by decide) (fun c14 => ?_) (fun c14 => ?_)
      · refine xs_iconst (v := zb false) dX3_isMode_21 rfl ?_
        exact xs_zret hX rfl dX3_isMode_22 (by simp [mBM_isMode, c2, c7, c14]) rfl
      · refine xs_iconst (v := zb true) dX3_isMode_17 rfl ?_
        refine xs_goto (t := 22) dX3_isMode_18 (by decide) ?_
        exact xs_zret hX rfl dX3_isMode_22 (by simp [mBM_isMode, c2, c7, c14]) rfl
theorem k_BM_isMode {X : xz_X} {cA : ClassId} {own : String} {ad : Nat → Nat} {cc : ByteArray} {nL : Nat} {ret : Option FieldType} {R : Room} {s : zT} {pc ix : Nat} {L : List (Nat × Value)} {st : List Value} {mode : Int32} {most : Int32} (d : decode cc pc = .ok (.invokestatic ix, 3)) (hw : xwS own ix yX3_isMode cX3_isMode 2 (some .boolean) 2) (hR : xroom R_BM_isMode 2 R) (hst : (st.map fun v => v.category).sum ≤ 8) (kk : xs X cA own cc nL ret R (wd ad cA (s)) 0 0 (pc + 3) L (.int (zb (mBM_isMode mode most)) :: st)) : xs X cA own cc nL ret R (wd ad cA s) 0 0 pc L (.int most :: .int mode :: st) :=
  xs_callS (c_BM_isMode ad cA s mode most) rfl rfl d hw hR rfl hst ⟨Nat.zero_le _, Nat.zero_le _⟩ kk
abbrev R_BM_fits : Room := { frames := 1, cells := 0, slots := 0, locals := 20 }
set_option maxRecDepth 100000 in
theorem kw_BM_Ln_count : xwV RX3 41 yX1_count cX1_count 1 (some .int) 0 := ⟨⟨xt_of (List.mem_of_getElem? (i := 184) rfl) rfl, xt_of (by decide +kernel) rfl, xt_of (by decide +kernel) rfl, by decide +kernel⟩, xt_of (by decide +kernel) rfl, xt_of (by decide +kernel) rfl⟩
set_option maxHeartbeats 4000000 in
set_option maxRecDepth 100000 in
theorem c_BM_fits (ad : Nat → Nat) (cA : ClassId) (s : zT) (a : zS) : xct cA yX3_fits cX3_fits 2 (some .boolean) R_BM_fits [.ref (ad 0), .int (zs a)] (wd ad cA s) (some (.int (zb (mBM_fits s a)))) (wd ad cA (s)) := by
  refine xct_of (own := RX3) (by decide) rfl (Nat.le_of_ble_eq_true rfl) (fun X hX => ?_)
  show xs X cA RX3 cX3_fits 2 (some .boolean) R_BM_fits (wd ad cA s) 0 0 0 [(0, .ref (ad 0)), (1, .int (zs a))] []
  refine xs_iload_n 1 dX3_fits_0 rfl ?_
  refine xs_sif_ne (t := 25) dX3_fits_1 (by decide) (fun c1 => ?_) (fun c1 => ?_)
  · refine xs_iconst (v := zb true) dX3_fits_25 rfl ?_
    refine xs_goto (t := 30) dX3_fits_26 (by decide) ?_
    exact xs_zret hX rfl dX3_fits_30 (by simp [mBM_fits, c1]) rfl
  · refine xs_aload_n 0 dX3_fits_4 rfl ?_
    refine g_BM_mode dX3_fits_5 ?_
    refine xs_iconst (v := 2) dX3_fits_8 (by decide) ?_
    refine xs_icmp_eq (t := 25) dX3_fits_9 (by decide) (fun c9 => ?_) (fun c9 => ?_)
    · refine xs_iconst (v := zb true) dX3_fits_25 rfl ?_
      refine xs_goto (t := 30) dX3_fits_26 (by decide) ?_
      exact xs_zret hX rfl dX3_fits_30 (by simp [mBM_fits, c1, c9]) rfl
    · refine xs_aload_n 0 dX3_fits_12 rfl ?_
      refine g_BM_line dX3_fits_13 ?_
      refine k_Ln_count dX3_fits_16 kw_BM_Ln_count (by decide) (Nat.le_of_ble_eq_true rfl) ?_
      refine xs_sipush (v := 2000) dX3_fits_19 (by decide) ?_
      refine xs_icmp_ge (t := 29) dX3_fits_22 (by decide) (fun c22 => ?_) (fun c22 => ?_)
      · refine xs_iconst (v := zb false) dX3_fits_29 rfl ?_
        exact xs_zret hX rfl dX3_fits_30 (by simp [mBM_fits, c1, c9, c22]) rfl
      · refine xs_iconst (v := zb true) dX3_fits_25 rfl ?_
        refine xs_goto (t := 30) dX3_fits_26 (by decide) ?_
        exact xs_zret hX rfl dX3_fits_30 (by simp [mBM_fits, c1, c9, c22]) rfl
theorem k_BM_fits {X : xz_X} {cA : ClassId} {own : String} {ad : Nat → Nat} {cc : ByteArray} {nL : Nat} {ret : Option FieldType} {R : Room} {s : zT} {pc ix : Nat} {L : List (Nat × Value)} {st : List Value} {a : zS} (d : decode cc pc = .ok (.invokevirtual ix, 3)) (hw : xwV own ix yX3_fits cX3_fits 2 (some .boolean) 1) (hR : xroom R_BM_fits 2 R) (hst : (st.map fun v => v.category).sum ≤ 8) (kk : xs X cA own cc nL ret R (wd ad cA (s)) 0 0 (pc + 3) L (.int (zb (mBM_fits s a)) :: st)) : xs X cA own cc nL ret R (wd ad cA s) 0 0 pc L (.int (zs a) :: .ref (ad 0) :: st) :=
  xs_call 0 (c_BM_fits ad cA s a) rfl rfl d hw hR rfl rfl rfl hst ⟨Nat.zero_le _, Nat.zero_le _⟩ kk
abbrev R_BM_touch : Room := { frames := 2, cells := 0, slots := 0, locals := 44 }
set_option maxRecDepth 100000 in
theorem kw_BM_Ln_toEnd : xwV RX3 120 yX1_moveToEnd cX1_moveToEnd 2 none 1 := ⟨⟨xt_of (List.mem_of_getElem? (i := 505) rfl) rfl, xt_of (by decide +kernel) rfl, xt_of (by decide +kernel) rfl, by decide +kernel⟩, xt_of (by decide +kernel) rfl, xt_of (by decide +kernel) rfl⟩
set_option maxHeartbeats 4000000 in
set_option maxRecDepth 100000 in
theorem c_BM_touch (ad : Nat → Nat) (cA : ClassId) (s : zT) (a : zS) : xct cA yX3_touch cX3_touch 2 none R_BM_touch [.ref (ad 0), .int (zs a)] (wd ad cA s) none (wd ad cA (mBM_touch s a)) := by
  refine xct_of (own := RX3) (by decide) rfl (Nat.le_of_ble_eq_true rfl) (fun X hX => ?_)
  show xs X cA RX3 cX3_touch 2 none R_BM_touch (wd ad cA s) 0 0 0 [(0, .ref (ad 0)), (1, .int (zs a))] []
  refine xs_aload_n 0 dX3_touch_0 rfl ?_
  refine g_BM_mode dX3_touch_1 ?_
  refine xs_iconst (v := 2) dX3_touch_4 (by decide) ?_
  refine xs_icmp_ne (t := 16) dX3_touch_5 (by decide) (fun c5 => ?_) (fun c5 => ?_)
  · exact xs_vret hX rfl dX3_touch_16 (by simp only [mBM_touch, if_neg c5])
  · refine xs_aload_n 0 dX3_touch_8 rfl ?_
    refine g_BM_line dX3_touch_9 ?_
    refine xs_iload_n 1 dX3_touch_12 rfl ?_
    refine k_Ln_toEnd dX3_touch_13 kw_BM_Ln_toEnd (by decide) (Nat.le_of_ble_eq_true rfl) ?_
    exact xs_vret hX rfl dX3_touch_16 (by simp only [mBM_touch, if_pos c5])
theorem k_BM_touch {X : xz_X} {cA : ClassId} {own : String} {ad : Nat → Nat} {cc : ByteArray} {nL : Nat} {ret : Option FieldType} {R : Room} {s : zT} {pc ix : Nat} {L : List (Nat × Value)} {st : List Value} {a : zS} (d : decode cc pc = .ok (.invokevirtual ix, 3)) (hw : xwV own ix yX3_touch cX3_touch 2 none 1) (hR : xroom R_BM_touch 2 R) (hst : (st.map fun v => v.category).sum ≤ 8) (kk : xs X cA own cc nL ret R (wd ad cA (mBM_touch s a)) 0 0 (pc + 3) L (st)) : xs X cA own cc nL ret R (wd ad cA s) 0 0 pc L (.int (zs a) :: .ref (ad 0) :: st) :=
  xs_call 0 (c_BM_touch ad cA s a) rfl rfl d hw hR rfl rfl rfl hst ⟨Nat.zero_le _, Nat.zero_le _⟩ kk
abbrev R_BM_change : Room := { frames := 3, cells := 0, slots := 0, locals := 65 }
set_option maxRecDepth 100000 in
theorem kw_BM_BM_touch : xwV RX3 78 yX3_touch cX3_touch 2 none 1 := ⟨⟨xt_of (List.mem_of_getElem? (i := 501) rfl) rfl, xt_of (by decide +kernel) rfl, xt_of (by decide +kernel) rfl, by decide +kernel⟩, xt_of (by decide +kernel) rfl, xt_of (by decide +kernel) rfl⟩
set_option maxHeartbeats 4000000 in
set_option maxRecDepth 100000 in
theorem c_BM_change (ad : Nat → Nat) (cA : ClassId) (s : zT) (a : zS) (x : Int32) : xct cA yX3_change cX3_change 3 none R_BM_change [.ref (ad 0), .int (zs a), .int x] (wd ad cA s) none (wd ad cA (mBM_change s a x)) := by
  refine xct_of (own := RX3) (by decide) rfl (Nat.le_of_ble_eq_true rfl) (fun X hX => ?_)
  show xs X cA RX3 cX3_change 3 none R_BM_change (wd ad cA s) 0 0 0 [(0, .ref (ad 0)), (1, .int (zs a)), (2, .int x)] []
  refine xs_aload_n 0 dX3_change_0 rfl ?_
  refine g_BM_numbers dX3_change_1 ?_
  refine xs_iload_n 1 dX3_change_4 rfl ?_
  refine xs_iload_n 2 dX3_change_5 rfl ?_
  refine as_I3 dX3_change_6 ?_
  refine xs_aload_n 0 dX3_change_7 rfl ?_
  refine xs_iload_n 1 dX3_change_8 rfl ?_
  refine k_BM_touch dX3_change_9 kw_BM_BM_touch (by decide) (Nat.le_of_ble_eq_true rfl) ?_
  exact xs_vret hX rfl dX3_change_12 rfl
theorem k_BM_change {X : xz_X} {cA : ClassId} {own : String} {ad : Nat → Nat} {cc : ByteArray} {nL : Nat} {ret : Option FieldType} {R : Room} {s : zT} {pc ix : Nat} {L : List (Nat × Value)} {st : List Value} {a : zS} {x : Int32} (d : decode cc pc = .ok (.invokevirtual ix, 3)) (hw : xwV own ix yX3_change cX3_change 3 none 2) (hR : xroom R_BM_change 3 R) (hst : (st.map fun v => v.category).sum ≤ 8) (kk : xs X cA own cc nL ret R (wd ad cA (mBM_change s a x)) 0 0 (pc + 3) L (st)) : xs X cA own cc nL ret R (wd ad cA s) 0 0 pc L (.int x :: .int (zs a) :: .ref (ad 0) :: st) :=
  xs_call 0 (c_BM_change ad cA s a x) rfl rfl d hw hR rfl rfl rfl hst ⟨Nat.zero_le _, Nat.zero_le _⟩ kk
abbrev R_BM_go : Room := { frames := 5, cells := 0, slots := 0, locals := 120 }
set_option maxRecDepth 100000 in
theorem kw_BM_Bi_remove : xwV RX3 123 yX0_remove cX0_remove 4 none 1 := ⟨⟨xt_of (List.mem_of_getElem? (i := 476) rfl) rfl, xt_of (by decide +kernel) rfl, xt_of (by decide +kernel) rfl, by decide +kernel⟩, xt_of (by decide +kernel) rfl, xt_of (by decide +kernel) rfl⟩
set_option maxRecDepth 100000 in
theorem kw_BM_Ln_leave : xwV RX3 126 yX1_leave cX1_leave 2 none 1 := ⟨⟨xt_of (List.mem_of_getElem? (i := 488) rfl) rfl, xt_of (by decide +kernel) rfl, xt_of (by decide +kernel) rfl, by decide +kernel⟩, xt_of (by decide +kernel) rfl, xt_of (by decide +kernel) rfl⟩
set_option maxHeartbeats 4000000 in
set_option maxRecDepth 100000 in
theorem c_BM_go (ad : Nat → Nat) (cA : ClassId) (s : zT) (a : zS) (hr : rok s) : xct cA yX3_go cX3_go 2 none R_BM_go [.ref (ad 0), .int (zs a)] (wd ad cA s) none (wd ad cA (mBM_go s a)) := by
  refine xct_of (own := RX3) (by decide) rfl (Nat.le_of_ble_eq_true rfl) (fun X hX => ?_)
  show xs X cA RX3 cX3_go 2 none R_BM_go (wd ad cA s) 0 0 0 [(0, .ref (ad 0)), (1, .int (zs a))] []
  refine xs_aload_n 0 dX3_go_0 rfl ?_
  refine g_BM_bins dX3_go_1 ?_
  refine xs_iload_n 1 dX3_go_4 rfl ?_
  refine k_Bi_remove dX3_go_5 kw_BM_Bi_remove (by decide) (Nat.le_of_ble_eq_true rfl) hr ?_
  refine xs_aload_n 0 dX3_go_8 rfl ?_
  refine g_BM_line dX3_go_9 ?_
  refine xs_iload_n 1 dX3_go_12 rfl ?_
  refine k_Ln_leave dX3_go_13 kw_BM_Ln_leave (by decide) (Nat.le_of_ble_eq_true rfl) ?_
  exact xs_vret hX rfl dX3_go_16 rfl
theorem k_BM_go {X : xz_X} {cA : ClassId} {own : String} {ad : Nat → Nat} {cc : ByteArray} {nL : Nat} {ret : Option FieldType} {R : Room} {s : zT} {pc ix : Nat} {L : List (Nat × Value)} {st : List Value} {a : zS} (d : decode cc pc = .ok (.invokevirtual ix, 3)) (hw : xwV own ix yX3_go cX3_go 2 none 1) (hR : xroom R_BM_go 2 R) (hst : (st.map fun v => v.category).sum ≤ 8) (hr : rok s) (kk : xs X cA own cc nL ret R (wd ad cA (mBM_go s a)) 0 0 (pc + 3) L (st)) : xs X cA own cc nL ret R (wd ad cA s) 0 0 pc L (.int (zs a) :: .ref (ad 0) :: st) :=
  xs_call 0 (c_BM_go ad cA s a hr) rfl rfl d hw hR rfl rfl rfl hst ⟨Nat.zero_le _, Nat.zero_le _⟩ kk
abbrev R_BM_come : Room := { frames := 6, cells := 0, slots := 0, locals := 141 }
set_option maxRecDepth 100000 in
theorem kw_BM_Ln_join : xwV RX3 99 yX1_join cX1_join 2 (some .int) 0 := ⟨⟨xt_of (List.mem_of_getElem? (i := 415) rfl) rfl, xt_of (by decide +kernel) rfl, xt_of (by decide +kernel) rfl, by decide +kernel⟩, xt_of (by decide +kernel) rfl, xt_of (by decide +kernel) rfl⟩
set_option maxRecDepth 100000 in
theorem kw_BM_Bi_name : xwV RX3 102 yX0_name cX0_name 3 none 2 := ⟨⟨xt_of (List.mem_of_getElem? (i := 423) rfl) rfl, xt_of (by decide +kernel) rfl, xt_of (by decide +kernel) rfl, by decide +kernel⟩, xt_of (by decide +kernel) rfl, xt_of (by decide +kernel) rfl⟩
set_option maxRecDepth 100000 in
theorem kw_BM_Bi_add : xwV RX3 105 yX0_add cX0_add 5 none 1 := ⟨⟨xt_of (List.mem_of_getElem? (i := 431) rfl) rfl, xt_of (by decide +kernel) rfl, xt_of (by decide +kernel) rfl, by decide +kernel⟩, xt_of (by decide +kernel) rfl, xt_of (by decide +kernel) rfl⟩
set_option maxRecDepth 100000 in
theorem kw_BM_Bi_tight : xwV RX3 108 yX0_isTight cX0_isTight 2 (some .boolean) 1 := ⟨⟨xt_of (List.mem_of_getElem? (i := 281) rfl) rfl, xt_of (by decide +kernel) rfl, xt_of (by decide +kernel) rfl, by decide +kernel⟩, xt_of (by decide +kernel) rfl, xt_of (by decide +kernel) rfl⟩
set_option maxRecDepth 100000 in
theorem kw_BM_Bi_stretch : xwV RX3 111 yX0_stretch cX0_stretch 1 none 0 := ⟨⟨xt_of (List.mem_of_getElem? (i := 468) rfl) rfl, xt_of (by decide +kernel) rfl, xt_of (by decide +kernel) rfl, by decide +kernel⟩, xt_of (by decide +kernel) rfl, xt_of (by decide +kernel) rfl⟩
set_option maxRecDepth 100000 in
theorem kw_BM_Ln_first : xwV RX3 114 yX1_first cX1_first 1 (some .int) 0 := ⟨⟨xt_of (List.mem_of_getElem? (i := 215) rfl) rfl, xt_of (by decide +kernel) rfl, xt_of (by decide +kernel) rfl, by decide +kernel⟩, xt_of (by decide +kernel) rfl, xt_of (by decide +kernel) rfl⟩
set_option maxRecDepth 100000 in
theorem kw_BM_Ln_behind : xwV RX3 117 yX1_behind cX1_behind 2 (some .int) 1 := ⟨⟨xt_of (List.mem_of_getElem? (i := 232) rfl) rfl, xt_of (by decide +kernel) rfl, xt_of (by decide +kernel) rfl, by decide +kernel⟩, xt_of (by decide +kernel) rfl, xt_of (by decide +kernel) rfl⟩
set_option maxRecDepth 100000 in
theorem kw_BM_BM_go : xwV RX3 75 yX3_go cX3_go 2 none 1 := ⟨⟨xt_of (List.mem_of_getElem? (i := 472) rfl) rfl, xt_of (by decide +kernel) rfl, xt_of (by decide +kernel) rfl, by decide +kernel⟩, xt_of (by decide +kernel) rfl, xt_of (by decide +kernel) rfl⟩
set_option maxHeartbeats 4000000 in
set_option maxRecDepth 100000 in
theorem t_BM_come2 {X : xz_X} {ad : Nat → Nat} {cA : ClassId} : ∀ (s : zT), rok s → xfin X cA 0 0 none (wd ad cA (mBM_come2 s)) → xs X cA RX3 cX3_come 6 none R_BM_come (wd ad cA s) 0 0 106 [(0, .ref (ad 0))] [] := by
  intro s hr hX
  refine xs_aload_n 0 dX3_come_106 rfl ?_
  refine g_BM_mode dX3_come_107 ?_
  refine xs_iconst (v := 2) dX3_come_110 (by decide) ?_
  refine xs_icmp_ne (t := 139) dX3_come_111 (by decide) (fun c111 => ?_) (fun c111 => ?_)
  · exact xs_vret hX rfl dX3_come_139 (by simp only [mBM_come2, if_neg c111])
  · refine xs_aload_n 0 dX3_come_114 rfl ?_
    refine g_BM_line dX3_come_115 ?_
    refine k_Ln_count dX3_come_118 kw_BM_Ln_count (by decide) (Nat.le_of_ble_eq_true rfl) ?_
    refine xs_aload_n 0 dX3_come_121 rfl ?_
    refine g_BM_most dX3_come_122 ?_
    refine xs_icmp_le (t := 139) dX3_come_125 (by decide) (fun c125 => ?_) (fun c125 => ?_)
    · exact xs_vret hX rfl dX3_come_139 (by simp only [mBM_come2, if_pos c111, if_pos c125])
    · refine xs_aload_n 0 dX3_come_128 rfl ?_
      refine xs_aload_n 0 dX3_come_129 rfl ?_
      refine g_BM_line dX3_come_130 ?_
      refine k_Ln_first dX3_come_133 kw_BM_Ln_first (by decide) (Nat.le_of_ble_eq_true rfl) ?_
      refine k_BM_go dX3_come_136 kw_BM_BM_go (by decide) (Nat.le_of_ble_eq_true rfl) hr ?_
      exact xs_vret hX rfl dX3_come_139 (by simp only [mBM_come2, if_pos c111, if_neg c125])
set_option maxHeartbeats 4000000 in
set_option maxRecDepth 100000 in
theorem t_BM_again {X : xz_X} {ad : Nat → Nat} {cA : ClassId} : ∀ (n i : Nat) (a : zS) (s : zT), rok s → i + n = (s.2 4 2).toNatClampNeg → xfin X cA 0 0 none (wd ad cA (mBM_come2 (mBM_againL n a s))) → xs X cA RX3 cX3_come 6 none R_BM_come (wd ad cA s) 0 0 68 [(5, .int (nI i)), (4, .int (zs a)), (0, .ref (ad 0))] [] := by
  intro n
  induction n with
  | zero =>
    intro i a s hr hi hX
    refine xs_iload 0 dX3_come_68 rfl ?_
    refine xs_aload_n 2 dX3_come_70 rfl ?_
    refine g_BM_line dX3_come_71 ?_
    refine k_Ln_count dX3_come_74 kw_BM_Ln_count (by decide) (Nat.le_of_ble_eq_true rfl) ?_
    refine xs_icmp_ge (t := 106) dX3_come_77 (by decide) (fun c77 => ?_) (fun c77 => ?_)
    · refine xs_sub (L' := [(0, _)]) [2] rfl ?_
      exact t_BM_come2 _ hr hX
    · exact absurd (cnt_le (by omega) (by have := cnt_lt31 (s.2 4 2); omega)) c77
  | succ n ih =>
    intro i a s hr hi hX
    refine xs_iload 0 dX3_come_68 rfl ?_
    refine xs_aload_n 2 dX3_come_70 rfl ?_
    refine g_BM_line dX3_come_71 ?_
    refine k_Ln_count dX3_come_74 kw_BM_Ln_count (by decide) (Nat.le_of_ble_eq_true rfl) ?_
    refine xs_icmp_ge (t := 106) dX3_come_77 (by decide) (fun c77 => ?_) (fun c77 => ?_)
    · exact absurd c77 (cnt_nle (by omega))
    · refine xs_aload_n 2 dX3_come_80 rfl ?_
      refine g_BM_bins dX3_come_81 ?_
      refine xs_iload 1 dX3_come_84 rfl ?_
      refine k_Bi_add dX3_come_86 kw_BM_Bi_add (by decide) (Nat.le_of_ble_eq_true rfl) hr ?_
      refine xs_aload_n 2 dX3_come_89 rfl ?_
      refine g_BM_line dX3_come_90 ?_
      refine xs_iload 1 dX3_come_93 rfl ?_
      refine k_Ln_behind dX3_come_95 kw_BM_Ln_behind (by decide) (Nat.le_of_ble_eq_true rfl) ?_
      refine xs_istore (L' := [(4, _), (5, _), (0, _)]) dX3_come_98 (by decide) rfl ?_
      refine xs_iinc_n (L' := [(5, _), (4, _), (0, _)]) 1 dX3_come_100 rfl (by decide) rfl ?_
      refine xs_goto (t := 68) dX3_come_103 (by decide) ?_
      refine xs_sub (L' := [(5, _), (4, _), (0, _)]) [0, 1, 2] rfl ?_
      exact ih _ _ _ (rok_add hr) (by rw [add_cnt]; omega) hX
set_option maxHeartbeats 4000000 in
set_option maxRecDepth 100000 in
theorem c_BM_come (ad : Nat → Nat) (cA : ClassId) (s : zT) (key : Int32) (x : Int32) (hr : rok s) : xct cA yX3_come cX3_come 6 none R_BM_come [.ref (ad 0), .int key, .int x] (wd ad cA s) none (wd ad cA (mBM_come s key x)) := by
  refine xct_of (own := RX3) (by decide) rfl (Nat.le_of_ble_eq_true rfl) (fun X hX => ?_)
  show xs X cA RX3 cX3_come 6 none R_BM_come (wd ad cA s) 0 0 0 [(0, .ref (ad 0)), (1, .int key), (2, .int x)] []
  refine xs_aload_n 0 dX3_come_0 rfl ?_
  refine g_BM_line dX3_come_1 ?_
  refine k_Ln_join dX3_come_4 kw_BM_Ln_join (by decide) (Nat.le_of_ble_eq_true rfl) ?_
  refine xs_istore_n (L' := [(3, _), (0, _), (1, _), (2, _)]) dX3_come_7 (by decide) rfl ?_
  refine xs_aload_n 1 dX3_come_8 rfl ?_
  refine g_BM_numbers dX3_come_9 ?_
  refine xs_iload_n 0 dX3_come_12 rfl ?_
  refine xs_iload_n 3 dX3_come_13 rfl ?_
  refine as_I3 dX3_come_14 ?_
  refine xs_aload_n 1 dX3_come_15 rfl ?_
  refine g_BM_bins dX3_come_16 ?_
  refine xs_iload_n 0 dX3_come_19 rfl ?_
  refine xs_iload_n 2 dX3_come_20 rfl ?_
  refine k_Bi_name dX3_come_21 kw_BM_Bi_name (by decide) (Nat.le_of_ble_eq_true rfl) ?_
  refine xs_aload_n 1 dX3_come_24 rfl ?_
  refine g_BM_bins dX3_come_25 ?_
  refine xs_iload_n 0 dX3_come_28 rfl ?_
  refine k_Bi_add dX3_come_29 kw_BM_Bi_add (by decide) (Nat.le_of_ble_eq_true rfl) (rok_join hr) ?_
  refine xs_aload_n 1 dX3_come_32 rfl ?_
  refine g_BM_bins dX3_come_33 ?_
  refine xs_aload_n 1 dX3_come_36 rfl ?_
  refine g_BM_line dX3_come_37 ?_
  refine k_Ln_count dX3_come_40 kw_BM_Ln_count (by decide) (Nat.le_of_ble_eq_true rfl) ?_
  refine k_Bi_tight dX3_come_43 kw_BM_Bi_tight (by decide) (Nat.le_of_ble_eq_true rfl) ?_
  refine xs_bif_eq (t := 106) dX3_come_46 (by decide) (fun c46 => ?_) (fun c46 => ?_)
  · refine xs_sub (L' := [(0, _)]) [1] rfl ?_
    exact t_BM_come2 _ (rok_add (rok_join hr)) (by simp only [mBM_come, c46, ↓reduceIte, Bool.false_eq_true] at hX; exact hX)
  · refine xs_aload_n 1 dX3_come_49 rfl ?_
    refine g_BM_bins dX3_come_50 ?_
    refine k_Bi_stretch dX3_come_53 kw_BM_Bi_stretch (by decide) (Nat.le_of_ble_eq_true rfl) ?_
    refine xs_aload_n 1 dX3_come_56 rfl ?_
    refine g_BM_line dX3_come_57 ?_
    refine k_Ln_first dX3_come_60 kw_BM_Ln_first (by decide) (Nat.le_of_ble_eq_true rfl) ?_
    refine xs_istore (L' := [(4, _), (3, _), (0, _), (1, _), (2, _)]) dX3_come_63 (by decide) rfl ?_
    refine xs_iconst (v := nI 0) dX3_come_65 rfl ?_
    refine xs_istore (L' := [(5, _), (4, _), (3, _), (0, _), (1, _), (2, _)]) dX3_come_66 (by decide) rfl ?_
    refine xs_sub (L' := [(5, _), (4, _), (0, _)]) [0, 1, 3] rfl ?_
    exact t_BM_again _ 0 _ _ (rok_stretch (rok_add (rok_join hr)) c46) (Nat.zero_add _) (by simp only [mBM_come, c46, ↓reduceIte, Bool.false_eq_true] at hX; exact hX)
theorem k_BM_come {X : xz_X} {cA : ClassId} {own : String} {ad : Nat → Nat} {cc : ByteArray} {nL : Nat} {ret : Option FieldType} {R : Room} {s : zT} {pc ix : Nat} {L : List (Nat × Value)} {st : List Value} {key : Int32} {x : Int32} (d : decode cc pc = .ok (.invokevirtual ix, 3)) (hw : xwV own ix yX3_come cX3_come 6 none 2) (hR : xroom R_BM_come 6 R) (hst : (st.map fun v => v.category).sum ≤ 8) (hr : rok s) (kk : xs X cA own cc nL ret R (wd ad cA (mBM_come s key x)) 0 0 (pc + 3) L (st)) : xs X cA own cc nL ret R (wd ad cA s) 0 0 pc L (.int x :: .int key :: .ref (ad 0) :: st) :=
  xs_call 0 (c_BM_come ad cA s key x hr) rfl rfl d hw hR rfl rfl rfl hst ⟨Nat.zero_le _, Nat.zero_le _⟩ kk
abbrev R_BM_first : Room := { frames := 1, cells := 0, slots := 0, locals := 22 }
set_option maxRecDepth 100000 in
theorem kw_BM_Bi_from : xwV RX3 129 yX0_firstFrom cX0_firstFrom 3 (some .int) 1 := ⟨⟨xt_of (List.mem_of_getElem? (i := 211) rfl) rfl, xt_of (by decide +kernel) rfl, xt_of (by decide +kernel) rfl, by decide +kernel⟩, xt_of (by decide +kernel) rfl, xt_of (by decide +kernel) rfl⟩
set_option maxHeartbeats 4000000 in
set_option maxRecDepth 100000 in
theorem c_BM_first (ad : Nat → Nat) (cA : ClassId) (s : zT) (hr : rok s) : xct cA yX3_firstSlot cX3_firstSlot 1 (some .int) R_BM_first [.ref (ad 0)] (wd ad cA s) (some (.int (zs (mBM_first s)))) (wd ad cA (s)) := by
  refine xct_of (own := RX3) (by decide) rfl (Nat.le_of_ble_eq_true rfl) (fun X hX => ?_)
  show xs X cA RX3 cX3_firstSlot 1 (some .int) R_BM_first (wd ad cA s) 0 0 0 [(0, .ref (ad 0))] []
  refine xs_aload_n 0 dX3_firstSlot_0 rfl ?_
  refine g_BM_mode dX3_firstSlot_1 ?_
  refine xs_if_ne (t := 18) dX3_firstSlot_4 (by decide) (fun c4 => ?_) (fun c4 => ?_)
  · refine xs_aload_n 0 dX3_firstSlot_18 rfl ?_
    refine g_BM_line dX3_firstSlot_19 ?_
    refine k_Ln_first dX3_firstSlot_22 kw_BM_Ln_first (by decide) (Nat.le_of_ble_eq_true rfl) ?_
    exact xs_iret hX rfl dX3_firstSlot_25 (by simp only [mBM_first, if_neg c4]) rfl
  · refine xs_aload_n 0 dX3_firstSlot_7 rfl ?_
    refine g_BM_bins dX3_firstSlot_8 ?_
    refine xs_iconst (v := nI 0) dX3_firstSlot_11 rfl ?_
    refine k_Bi_from dX3_firstSlot_12 kw_BM_Bi_from (by decide) (Nat.le_of_ble_eq_true rfl) hr (by decide) ?_
    refine xs_goto (t := 25) dX3_firstSlot_15 (by decide) ?_
    exact xs_iret hX rfl dX3_firstSlot_25 (by simp only [mBM_first, if_pos c4]) rfl
theorem k_BM_first {X : xz_X} {cA : ClassId} {own : String} {ad : Nat → Nat} {cc : ByteArray} {nL : Nat} {ret : Option FieldType} {R : Room} {s : zT} {pc ix : Nat} {L : List (Nat × Value)} {st : List Value} (d : decode cc pc = .ok (.invokevirtual ix, 3)) (hw : xwV own ix yX3_firstSlot cX3_firstSlot 1 (some .int) 0) (hR : xroom R_BM_first 1 R) (hst : (st.map fun v => v.category).sum ≤ 8) (hr : rok s) (kk : xs X cA own cc nL ret R (wd ad cA (s)) 0 0 (pc + 3) L (.int (zs (mBM_first s)) :: st)) : xs X cA own cc nL ret R (wd ad cA s) 0 0 pc L (.ref (ad 0) :: st) :=
  xs_call 0 (c_BM_first ad cA s hr) rfl rfl d hw hR rfl rfl rfl hst ⟨Nat.zero_le _, Nat.zero_le _⟩ kk
abbrev R_BM_behind : Room := { frames := 3, cells := 0, slots := 0, locals := 64 }
set_option maxRecDepth 100000 in
theorem kw_BM_Bi_behind : xwV RX3 132 yX0_behind cX0_behind 2 (some .int) 1 := ⟨⟨xt_of (List.mem_of_getElem? (i := 227) rfl) rfl, xt_of (by decide +kernel) rfl, xt_of (by decide +kernel) rfl, by decide +kernel⟩, xt_of (by decide +kernel) rfl, xt_of (by decide +kernel) rfl⟩
set_option maxHeartbeats 4000000 in
set_option maxRecDepth 100000 in
theorem c_BM_behind (ad : Nat → Nat) (cA : ClassId) (s : zT) (a : zS) (hr : rok s) : xct cA yX3_slotBehind cX3_slotBehind 2 (some .int) R_BM_behind [.ref (ad 0), .int (zs a)] (wd ad cA s) (some (.int (zs (mBM_behind s a)))) (wd ad cA (s)) := by
  refine xct_of (own := RX3) (by decide) rfl (Nat.le_of_ble_eq_true rfl) (fun X hX => ?_)
  show xs X cA RX3 cX3_slotBehind 2 (some .int) R_BM_behind (wd ad cA s) 0 0 0 [(0, .ref (ad 0)), (1, .int (zs a))] []
  refine xs_aload_n 0 dX3_slotBehind_0 rfl ?_
  refine g_BM_mode dX3_slotBehind_1 ?_
  refine xs_if_ne (t := 18) dX3_slotBehind_4 (by decide) (fun c4 => ?_) (fun c4 => ?_)
  · refine xs_aload_n 0 dX3_slotBehind_18 rfl ?_
    refine g_BM_line dX3_slotBehind_19 ?_
    refine xs_iload_n 1 dX3_slotBehind_22 rfl ?_
    refine k_Ln_behind dX3_slotBehind_23 kw_BM_Ln_behind (by decide) (Nat.le_of_ble_eq_true rfl) ?_
    exact xs_iret hX rfl dX3_slotBehind_26 (by simp only [mBM_behind, if_neg c4]) rfl
  · refine xs_aload_n 0 dX3_slotBehind_7 rfl ?_
    refine g_BM_bins dX3_slotBehind_8 ?_
    refine xs_iload_n 1 dX3_slotBehind_11 rfl ?_
    refine k_Bi_behind dX3_slotBehind_12 kw_BM_Bi_behind (by decide) (Nat.le_of_ble_eq_true rfl) hr ?_
    refine xs_goto (t := 26) dX3_slotBehind_15 (by decide) ?_
    exact xs_iret hX rfl dX3_slotBehind_26 (by simp only [mBM_behind, if_pos c4]) rfl
theorem k_BM_behind {X : xz_X} {cA : ClassId} {own : String} {ad : Nat → Nat} {cc : ByteArray} {nL : Nat} {ret : Option FieldType} {R : Room} {s : zT} {pc ix : Nat} {L : List (Nat × Value)} {st : List Value} {a : zS} (d : decode cc pc = .ok (.invokevirtual ix, 3)) (hw : xwV own ix yX3_slotBehind cX3_slotBehind 2 (some .int) 1) (hR : xroom R_BM_behind 2 R) (hst : (st.map fun v => v.category).sum ≤ 8) (hr : rok s) (kk : xs X cA own cc nL ret R (wd ad cA (s)) 0 0 (pc + 3) L (.int (zs (mBM_behind s a)) :: st)) : xs X cA own cc nL ret R (wd ad cA s) 0 0 pc L (.int (zs a) :: .ref (ad 0) :: st) :=
  xs_call 0 (c_BM_behind ad cA s a hr) rfl rfl d hw hR rfl rfl rfl hst ⟨Nat.zero_le _, Nat.zero_le _⟩ kk
abbrev R_BM_over : Room := { frames := 1, cells := 0, slots := 0, locals := 21 }
set_option maxRecDepth 100000 in
theorem kw_BM_Bi_next : xwV RX3 139 yX0_nextInPlace cX0_nextInPlace 2 (some .int) 1 := ⟨⟨xt_of (List.mem_of_getElem? (i := 297) rfl) rfl, xt_of (by decide +kernel) rfl, xt_of (by decide +kernel) rfl, by decide +kernel⟩, xt_of (by decide +kernel) rfl, xt_of (by decide +kernel) rfl⟩
set_option maxRecDepth 100000 in
theorem kw_BM_Ln_rankOf : xwV RX3 142 yX1_rankOf cX1_rankOf 2 (some .int) 1 := ⟨⟨xt_of (List.mem_of_getElem? (i := 301) rfl) rfl, xt_of (by decide +kernel) rfl, xt_of (by decide +kernel) rfl, by decide +kernel⟩, xt_of (by decide +kernel) rfl, xt_of (by decide +kernel) rfl⟩
set_option maxHeartbeats 4000000 in
set_option maxRecDepth 100000 in
theorem c_BM_over (ad : Nat → Nat) (cA : ClassId) (s : zT) (a : zS) : xct cA yX3_isOvertaken cX3_isOvertaken 3 (some .boolean) R_BM_over [.ref (ad 0), .int (zs a)] (wd ad cA s) (some (.int (zb (mBM_over s a)))) (wd ad cA (s)) := by
  refine xct_of (own := RX3) (by decide) rfl (Nat.le_of_ble_eq_true rfl) (fun X hX => ?_)
  show xs X cA RX3 cX3_isOvertaken 3 (some .boolean) R_BM_over (wd ad cA s) 0 0 0 [(0, .ref (ad 0)), (1, .int (zs a))] []
  refine xs_aload_n 0 dX3_isOvertaken_0 rfl ?_
  refine g_BM_bins dX3_isOvertaken_1 ?_
  refine xs_iload_n 1 dX3_isOvertaken_4 rfl ?_
  refine k_Bi_next dX3_isOvertaken_5 kw_BM_Bi_next (by decide) (Nat.le_of_ble_eq_true rfl) ?_
  refine xs_istore_n (L' := [(2, _), (0, _), (1, _)]) dX3_isOvertaken_8 (by decide) rfl ?_
  refine xs_aload_n 1 dX3_isOvertaken_9 rfl ?_
  refine g_BM_mode dX3_isOvertaken_10 ?_
  refine xs_iconst (v := 2) dX3_isOvertaken_13 (by decide) ?_
  refine xs_icmp_eq (t := 44) dX3_isOvertaken_14 (by decide) (fun c14 => ?_) (fun c14 => ?_)
  · refine xs_iconst (v := zb false) dX3_isOvertaken_44 rfl ?_
    exact xs_zret hX rfl dX3_isOvertaken_45 (by simp [mBM_over, c14]) rfl
  · refine xs_iload_n 0 dX3_isOvertaken_17 rfl ?_
    refine xs_sif_eq (t := 44) dX3_isOvertaken_18 (by decide) (fun c18 => ?_) (fun c18 => ?_)
    · refine xs_iconst (v := zb false) dX3_isOvertaken_44 rfl ?_
      exact xs_zret hX rfl dX3_isOvertaken_45 (by simp [mBM_over, c14, c18]) rfl
    · refine xs_aload_n 1 dX3_isOvertaken_21 rfl ?_
      refine g_BM_line dX3_isOvertaken_22 ?_
      refine xs_iload_n 0 dX3_isOvertaken_25 rfl ?_
      refine k_Ln_rankOf dX3_isOvertaken_26 kw_BM_Ln_rankOf (by decide) (Nat.le_of_ble_eq_true rfl) ?_
      refine xs_aload_n 1 dX3_isOvertaken_29 rfl ?_
      refine g_BM_line dX3_isOvertaken_30 ?_
      refine xs_iload_n 2 dX3_isOvertaken_33 rfl ?_
      refine k_Ln_rankOf dX3_isOvertaken_34 kw_BM_Ln_rankOf (by decide) (Nat.le_of_ble_eq_true rfl) ?_
      refine xs_icmp_ge (t := 44) dX3_isOvertaken_37 (by decide) (fun c37 => ?_) (fun c37 => ?_)
      · refine xs_iconst (v := zb false) dX3_isOvertaken_44 rfl ?_
        exact xs_zret hX rfl dX3_isOvertaken_45 (by simp [mBM_over, c14, c18, c37]) rfl
      · refine xs_iconst (v := zb true) dX3_isOvertaken_40 rfl ?_
        refine xs_goto (t := 45) dX3_isOvertaken_41 (by decide) ?_
        exact xs_zret hX rfl dX3_isOvertaken_45 (by simp [mBM_over, c14, c18, c37]) rfl
theorem k_BM_over {X : xz_X} {cA : ClassId} {own : String} {ad : Nat → Nat} {cc : ByteArray} {nL : Nat} {ret : Option FieldType} {R : Room} {s : zT} {pc ix : Nat} {L : List (Nat × Value)} {st : List Value} {a : zS} (d : decode cc pc = .ok (.invokevirtual ix, 3)) (hw : xwV own ix yX3_isOvertaken cX3_isOvertaken 3 (some .boolean) 1) (hR : xroom R_BM_over 3 R) (hst : (st.map fun v => v.category).sum ≤ 8) (kk : xs X cA own cc nL ret R (wd ad cA (s)) 0 0 (pc + 3) L (.int (zb (mBM_over s a)) :: st)) : xs X cA own cc nL ret R (wd ad cA s) 0 0 pc L (.int (zs a) :: .ref (ad 0) :: st) :=
  xs_call 0 (c_BM_over ad cA s a) rfl rfl d hw hR rfl rfl rfl hst ⟨Nat.zero_le _, Nat.zero_le _⟩ kk
abbrev R_BM_fb : Room := { frames := 3, cells := 0, slots := 0, locals := 67 }
set_option maxRecDepth 100000 in
theorem kw_BM_Ln_rank : xwV RX3 133 yX1_rank cX1_rank 3 none 0 := ⟨⟨xt_of (List.mem_of_getElem? (i := 289) rfl) rfl, xt_of (by decide +kernel) rfl, xt_of (by decide +kernel) rfl, by decide +kernel⟩, xt_of (by decide +kernel) rfl, xt_of (by decide +kernel) rfl⟩
set_option maxRecDepth 100000 in
theorem kw_BM_Bi_keyOf : xwV RX3 87 yX0_keyOf cX0_keyOf 2 (some .int) 1 := ⟨⟨xt_of (List.mem_of_getElem? (i := 219) rfl) rfl, xt_of (by decide +kernel) rfl, xt_of (by decide +kernel) rfl, by decide +kernel⟩, xt_of (by decide +kernel) rfl, xt_of (by decide +kernel) rfl⟩
set_option maxRecDepth 100000 in
theorem kw_BM_Bi_find : xwV RX3 52 yX0_slotOf cX0_slotOf 5 (some .int) 1 := ⟨⟨xt_of (List.mem_of_getElem? (i := 159) rfl) rfl, xt_of (by decide +kernel) rfl, xt_of (by decide +kernel) rfl, by decide +kernel⟩, xt_of (by decide +kernel) rfl, xt_of (by decide +kernel) rfl⟩
set_option maxRecDepth 100000 in
theorem kw_BM_BM_over : xwV RX3 136 yX3_isOvertaken cX3_isOvertaken 3 (some .boolean) 1 := ⟨⟨xt_of (List.mem_of_getElem? (i := 293) rfl) rfl, xt_of (by decide +kernel) rfl, xt_of (by decide +kernel) rfl, by decide +kernel⟩, xt_of (by decide +kernel) rfl, xt_of (by decide +kernel) rfl⟩
set_option maxHeartbeats 4000000 in
set_option maxRecDepth 100000 in
theorem t_BM_fb {X : xz_X} {ad : Nat → Nat} {cA : ClassId} {s : zT} (hr : rok s) : ∀ (n i : Nat) (x : Int32) (a : zS), i + n = (s.2 4 2).toNatClampNeg → xfin X cA 0 0 (some (.int (mBM_fbL s n x a))) (wd ad cA (s)) → xs X cA RX3 cX3_faultsBetween 4 (some .int) R_BM_fb (wd ad cA s) 0 0 19 [(3, .int (nI i)), (2, .int (zs a)), (1, .int x), (0, .ref (ad 0))] [] := by
  intro n
  induction n with
  | zero =>
    intro i x a hi hX
    refine xs_iload_n 0 dX3_faultsBetween_19 rfl ?_
    refine xs_aload_n 3 dX3_faultsBetween_20 rfl ?_
    refine g_BM_line dX3_faultsBetween_21 ?_
    refine k_Ln_count dX3_faultsBetween_24 kw_BM_Ln_count (by decide) (Nat.le_of_ble_eq_true rfl) ?_
    refine xs_icmp_ge (t := 78) dX3_faultsBetween_27 (by decide) (fun c27 => ?_) (fun c27 => ?_)
    · refine xs_iload_n 2 dX3_faultsBetween_78 rfl ?_
      exact xs_iret hX rfl dX3_faultsBetween_79 rfl rfl
    · exact absurd (cnt_le (by omega) (by have := cnt_lt31 (s.2 4 2); omega)) c27
  | succ n ih =>
    intro i x a hi hX
    refine xs_iload_n 0 dX3_faultsBetween_19 rfl ?_
    refine xs_aload_n 3 dX3_faultsBetween_20 rfl ?_
    refine g_BM_line dX3_faultsBetween_21 ?_
    refine k_Ln_count dX3_faultsBetween_24 kw_BM_Ln_count (by decide) (Nat.le_of_ble_eq_true rfl) ?_
    refine xs_icmp_ge (t := 78) dX3_faultsBetween_27 (by decide) (fun c27 => ?_) (fun c27 => ?_)
    · exact absurd c27 (cnt_nle (by omega))
    · refine xs_aload_n 3 dX3_faultsBetween_30 rfl ?_
      refine g_BM_bins dX3_faultsBetween_31 ?_
      refine xs_aload_n 3 dX3_faultsBetween_34 rfl ?_
      refine g_BM_bins dX3_faultsBetween_35 ?_
      refine xs_iload_n 1 dX3_faultsBetween_38 rfl ?_
      refine k_Bi_keyOf dX3_faultsBetween_39 kw_BM_Bi_keyOf (by decide) (Nat.le_of_ble_eq_true rfl) ?_
      refine k_Bi_find dX3_faultsBetween_42 kw_BM_Bi_find (by decide) (Nat.le_of_ble_eq_true rfl) hr ?_
      refine xs_iload_n 1 dX3_faultsBetween_45 rfl ?_
      refine xs_scmp_eq (t := 52) dX3_faultsBetween_46 (by decide) (fun c46 => ?_) (fun c46 => ?_)
      · refine xs_aload_n 3 dX3_faultsBetween_52 rfl ?_
        refine xs_iload_n 1 dX3_faultsBetween_53 rfl ?_
        refine k_BM_over dX3_faultsBetween_54 kw_BM_BM_over (by decide) (Nat.le_of_ble_eq_true rfl) ?_
        refine xs_bif_eq (t := 63) dX3_faultsBetween_57 (by decide) (fun c57 => ?_) (fun c57 => ?_)
        · refine xs_aload_n 3 dX3_faultsBetween_63 rfl ?_
          refine g_BM_line dX3_faultsBetween_64 ?_
          refine xs_iload_n 1 dX3_faultsBetween_67 rfl ?_
          refine k_Ln_behind dX3_faultsBetween_68 kw_BM_Ln_behind (by decide) (Nat.le_of_ble_eq_true rfl) ?_
          refine xs_istore_n (L' := [(2, _), (3, _), (1, _), (0, _)]) dX3_faultsBetween_71 (by decide) rfl ?_
          refine xs_iinc_n (L' := [(3, _), (2, _), (1, _), (0, _)]) 1 dX3_faultsBetween_72 rfl (by decide) rfl ?_
          refine xs_goto (t := 19) dX3_faultsBetween_75 (by decide) ?_
          refine xs_sub (L' := [(3, _), (2, _), (1, _), (0, _)]) [0, 1, 2, 3] rfl ?_
          exact ih _ _ _ (by omega) (by simp only [mBM_fbL, mBM_fbL1, if_neg c27, if_pos c46, c57, ↓reduceIte, Bool.false_eq_true] at hX; exact hX)
        · refine xs_iinc_1 (L' := [(1, _), (3, _), (2, _), (0, _)]) 2 dX3_faultsBetween_60 rfl (by decide) rfl ?_
          refine xs_aload_n 3 dX3_faultsBetween_63 rfl ?_
          refine g_BM_line dX3_faultsBetween_64 ?_
          refine xs_iload_n 2 dX3_faultsBetween_67 rfl ?_
          refine k_Ln_behind dX3_faultsBetween_68 kw_BM_Ln_behind (by decide) (Nat.le_of_ble_eq_true rfl) ?_
          refine xs_istore_n (L' := [(2, _), (1, _), (3, _), (0, _)]) dX3_faultsBetween_71 (by decide) rfl ?_
          refine xs_iinc_n (L' := [(3, _), (2, _), (1, _), (0, _)]) 2 dX3_faultsBetween_72 rfl (by decide) rfl ?_
          refine xs_goto (t := 19) dX3_faultsBetween_75 (by decide) ?_
          refine xs_sub (L' := [(3, _), (2, _), (1, _), (0, _)]) [0, 1, 2, 3] rfl ?_
          exact ih _ _ _ (by omega) (by simp only [mBM_fbL, mBM_fbL1, if_neg c27, if_pos c46, c57, ↓reduceIte, Bool.false_eq_true] at hX; exact hX)
      · refine xs_iinc_1 (L' := [(1, _), (3, _), (2, _), (0, _)]) 2 dX3_faultsBetween_49 rfl (by decide) rfl ?_
        refine xs_aload_n 3 dX3_faultsBetween_52 rfl ?_
        refine xs_iload_n 2 dX3_faultsBetween_53 rfl ?_
        refine k_BM_over dX3_faultsBetween_54 kw_BM_BM_over (by decide) (Nat.le_of_ble_eq_true rfl) ?_
        refine xs_bif_eq (t := 63) dX3_faultsBetween_57 (by decide) (fun c57 => ?_) (fun c57 => ?_)
        · refine xs_aload_n 3 dX3_faultsBetween_63 rfl ?_
          refine g_BM_line dX3_faultsBetween_64 ?_
          refine xs_iload_n 2 dX3_faultsBetween_67 rfl ?_
          refine k_Ln_behind dX3_faultsBetween_68 kw_BM_Ln_behind (by decide) (Nat.le_of_ble_eq_true rfl) ?_
          refine xs_istore_n (L' := [(2, _), (1, _), (3, _), (0, _)]) dX3_faultsBetween_71 (by decide) rfl ?_
          refine xs_iinc_n (L' := [(3, _), (2, _), (1, _), (0, _)]) 2 dX3_faultsBetween_72 rfl (by decide) rfl ?_
          refine xs_goto (t := 19) dX3_faultsBetween_75 (by decide) ?_
          refine xs_sub (L' := [(3, _), (2, _), (1, _), (0, _)]) [0, 1, 2, 3] rfl ?_
          exact ih _ _ _ (by omega) (by simp only [mBM_fbL, mBM_fbL1, if_neg c27, if_neg c46, c57, ↓reduceIte, Bool.false_eq_true] at hX; exact hX)
        · refine xs_iinc_1 (L' := [(1, _), (3, _), (2, _), (0, _)]) 0 dX3_faultsBetween_60 rfl (by decide) rfl ?_
          refine xs_aload_n 3 dX3_faultsBetween_63 rfl ?_
          refine g_BM_line dX3_faultsBetween_64 ?_
          refine xs_iload_n 2 dX3_faultsBetween_67 rfl ?_
          refine k_Ln_behind dX3_faultsBetween_68 kw_BM_Ln_behind (by decide) (Nat.le_of_ble_eq_true rfl) ?_
          refine xs_istore_n (L' := [(2, _), (1, _), (3, _), (0, _)]) dX3_faultsBetween_71 (by decide) rfl ?_
          refine xs_iinc_n (L' := [(3, _), (2, _), (1, _), (0, _)]) 2 dX3_faultsBetween_72 rfl (by decide) rfl ?_
          refine xs_goto (t := 19) dX3_faultsBetween_75 (by decide) ?_
          refine xs_sub (L' := [(3, _), (2, _), (1, _), (0, _)]) [0, 1, 2, 3] rfl ?_
          exact ih _ _ _ (by omega) (by simp only [mBM_fbL, mBM_fbL1, if_neg c27, if_neg c46, c57, ↓reduceIte, Bool.false_eq_true] at hX; exact hX)
set_option maxHeartbeats 4000000 in
set_option maxRecDepth 100000 in
theorem c_BM_fb (ad : Nat → Nat) (cA : ClassId) (s : zT) (hr : rok s) : xct cA yX3_faultsBetween cX3_faultsBetween 4 (some .int) R_BM_fb [.ref (ad 0)] (wd ad cA s) (some (.int ((mBM_fb s).1))) (wd ad cA ((mBM_fb s).2)) := by
  refine xct_of (own := RX3) (by decide) rfl (Nat.le_of_ble_eq_true rfl) (fun X hX => ?_)
  show xs X cA RX3 cX3_faultsBetween 4 (some .int) R_BM_fb (wd ad cA s) 0 0 0 [(0, .ref (ad 0))] []
  refine xs_iconst (v := 0) dX3_faultsBetween_0 (by decide) ?_
  refine xs_istore_n (L' := [(1, _), (0, _)]) dX3_faultsBetween_1 (by decide) rfl ?_
  refine xs_aload_n 1 dX3_faultsBetween_2 rfl ?_
  refine g_BM_line dX3_faultsBetween_3 ?_
  refine k_Ln_rank dX3_faultsBetween_6 kw_BM_Ln_rank (by decide) (Nat.le_of_ble_eq_true rfl) ?_
  refine xs_aload_n 1 dX3_faultsBetween_9 rfl ?_
  refine g_BM_line dX3_faultsBetween_10 ?_
  refine k_Ln_first dX3_faultsBetween_13 kw_BM_Ln_first (by decide) (Nat.le_of_ble_eq_true rfl) ?_
  refine xs_istore_n (L' := [(2, _), (1, _), (0, _)]) dX3_faultsBetween_16 (by decide) rfl ?_
  refine xs_iconst (v := nI 0) dX3_faultsBetween_17 rfl ?_
  refine xs_istore_n (L' := [(3, _), (2, _), (1, _), (0, _)]) dX3_faultsBetween_18 (by decide) rfl ?_
  refine xs_sub (L' := [(3, _), (2, _), (1, _), (0, _)]) [0, 1, 2, 3] rfl ?_
  exact t_BM_fb (rok_rank hr) _ 0 _ _ (Nat.zero_add _) hX
theorem k_BM_fb {X : xz_X} {cA : ClassId} {own : String} {ad : Nat → Nat} {cc : ByteArray} {nL : Nat} {ret : Option FieldType} {R : Room} {s : zT} {pc ix : Nat} {L : List (Nat × Value)} {st : List Value} (d : decode cc pc = .ok (.invokevirtual ix, 3)) (hw : xwV own ix yX3_faultsBetween cX3_faultsBetween 4 (some .int) 0) (hR : xroom R_BM_fb 4 R) (hst : (st.map fun v => v.category).sum ≤ 8) (hr : rok s) (kk : xs X cA own cc nL ret R (wd ad cA ((mBM_fb s).2)) 0 0 (pc + 3) L (.int ((mBM_fb s).1) :: st)) : xs X cA own cc nL ret R (wd ad cA s) 0 0 pc L (.ref (ad 0) :: st) :=
  xs_call 0 (c_BM_fb ad cA s hr) rfl rfl d hw hR rfl rfl rfl hst ⟨Nat.zero_le _, Nat.zero_le _⟩ kk
abbrev R_BM_wrong : Room := { frames := 5, cells := 0, slots := 0, locals := 124 }
set_option maxRecDepth 100000 in
theorem kw_BM_Ln_faults : xwV RX3 91 yX1_faults cX1_faults 5 (some .int) 0 := ⟨⟨xt_of (List.mem_of_getElem? (i := 240) rfl) rfl, xt_of (by decide +kernel) rfl, xt_of (by decide +kernel) rfl, by decide +kernel⟩, xt_of (by decide +kernel) rfl, xt_of (by decide +kernel) rfl⟩
set_option maxRecDepth 100000 in
theorem kw_BM_Bi_faults : xwV RX3 94 yX0_faults cX0_faults 5 (some .int) 1 := ⟨⟨xt_of (List.mem_of_getElem? (i := 248) rfl) rfl, xt_of (by decide +kernel) rfl, xt_of (by decide +kernel) rfl, by decide +kernel⟩, xt_of (by decide +kernel) rfl, xt_of (by decide +kernel) rfl⟩
set_option maxRecDepth 100000 in
theorem kw_BM_BM_fb : xwV RX3 96 yX3_faultsBetween cX3_faultsBetween 4 (some .int) 0 := ⟨⟨xt_of (List.mem_of_getElem? (i := 285) rfl) rfl, xt_of (by decide +kernel) rfl, xt_of (by decide +kernel) rfl, by decide +kernel⟩, xt_of (by decide +kernel) rfl, xt_of (by decide +kernel) rfl⟩
set_option maxHeartbeats 4000000 in
set_option maxRecDepth 100000 in
theorem c_BM_wrong (ad : Nat → Nat) (cA : ClassId) (s : zT) (hr : rok s) : xct cA yX3_wrong cX3_wrong 3 (some .int) R_BM_wrong [.ref (ad 0)] (wd ad cA s) (some (.int ((mBM_wrong s).1))) (wd ad cA ((mBM_wrong s).2)) := by
  refine xct_of (own := RX3) (by decide) rfl (Nat.le_of_ble_eq_true rfl) (fun X hX => ?_)
  show xs X cA RX3 cX3_wrong 3 (some .int) R_BM_wrong (wd ad cA s) 0 0 0 [(0, .ref (ad 0))] []
  refine xs_aload_n 0 dX3_wrong_0 rfl ?_
  refine g_BM_line dX3_wrong_1 ?_
  refine k_Ln_faults dX3_wrong_4 kw_BM_Ln_faults (by decide) (Nat.le_of_ble_eq_true rfl) ?_
  refine xs_aload_n 0 dX3_wrong_7 rfl ?_
  refine g_BM_bins dX3_wrong_8 ?_
  refine xs_aload_n 0 dX3_wrong_11 rfl ?_
  refine g_BM_line dX3_wrong_12 ?_
  refine k_Ln_count dX3_wrong_15 kw_BM_Ln_count (by decide) (Nat.le_of_ble_eq_true rfl) ?_
  refine k_Bi_faults dX3_wrong_18 kw_BM_Bi_faults (by decide) (Nat.le_of_ble_eq_true rfl) hr ?_
  refine xs_iadd dX3_wrong_21 ?_
  refine xs_istore_n (L' := [(1, _), (0, _)]) dX3_wrong_22 (by decide) rfl ?_
  refine xs_aload_n 1 dX3_wrong_23 rfl ?_
  refine g_BM_mode dX3_wrong_24 ?_
  refine xs_iconst (v := 2) dX3_wrong_27 (by decide) ?_
  refine xs_icmp_ne (t := 38) dX3_wrong_28 (by decide) (fun c28 => ?_) (fun c28 => ?_)
  · refine xs_sipush (v := 2000) dX3_wrong_38 (by decide) ?_
    refine xs_istore_n (L' := [(2, _), (1, _), (0, _)]) dX3_wrong_41 (by decide) rfl ?_
    refine xs_iload_n 1 dX3_wrong_42 rfl ?_
    refine xs_aload_n 2 dX3_wrong_43 rfl ?_
    refine k_BM_fb dX3_wrong_44 kw_BM_BM_fb (by decide) (Nat.le_of_ble_eq_true rfl) hr ?_
    refine xs_iadd dX3_wrong_47 ?_
    refine xs_aload_n 2 dX3_wrong_48 rfl ?_
    refine g_BM_line dX3_wrong_49 ?_
    refine k_Ln_count dX3_wrong_52 kw_BM_Ln_count (by decide) (Nat.le_of_ble_eq_true rfl) ?_
    refine xs_iload_n 0 dX3_wrong_55 rfl ?_
    refine xs_icmp_le (t := 63) dX3_wrong_56 (by decide) (fun c56 => ?_) (fun c56 => ?_)
    · refine xs_iconst (v := 0) dX3_wrong_63 (by decide) ?_
      refine xs_iadd dX3_wrong_64 ?_
      exact xs_iret hX rfl dX3_wrong_65 (by simp only [mBM_wrong, if_neg c28, if_pos c56]) (by simp only [mBM_wrong, if_neg c28, if_pos c56])
    · refine xs_iconst (v := 1) dX3_wrong_59 (by decide) ?_
      refine xs_goto (t := 64) dX3_wrong_60 (by decide) ?_
      refine xs_iadd dX3_wrong_64 ?_
      exact xs_iret hX rfl dX3_wrong_65 (by simp only [mBM_wrong, if_neg c28, if_neg c56]) (by simp only [mBM_wrong, if_neg c28, if_neg c56])
  · refine xs_aload_n 1 dX3_wrong_31 rfl ?_
    refine g_BM_most dX3_wrong_32 ?_
    refine xs_goto (t := 41) dX3_wrong_35 (by decide) ?_
    refine xs_istore_n (L' := [(2, _), (1, _), (0, _)]) dX3_wrong_41 (by decide) rfl ?_
    refine xs_iload_n 1 dX3_wrong_42 rfl ?_
    refine xs_aload_n 2 dX3_wrong_43 rfl ?_
    refine k_BM_fb dX3_wrong_44 kw_BM_BM_fb (by decide) (Nat.le_of_ble_eq_true rfl) hr ?_
    refine xs_iadd dX3_wrong_47 ?_
    refine xs_aload_n 2 dX3_wrong_48 rfl ?_
    refine g_BM_line dX3_wrong_49 ?_
    refine k_Ln_count dX3_wrong_52 kw_BM_Ln_count (by decide) (Nat.le_of_ble_eq_true rfl) ?_
    refine xs_iload_n 0 dX3_wrong_55 rfl ?_
    refine xs_icmp_le (t := 63) dX3_wrong_56 (by decide) (fun c56 => ?_) (fun c56 => ?_)
    · refine xs_iconst (v := 0) dX3_wrong_63 (by decide) ?_
      refine xs_iadd dX3_wrong_64 ?_
      exact xs_iret hX rfl dX3_wrong_65 (by simp only [mBM_wrong, if_pos c28, if_pos c56]) (by simp only [mBM_wrong, if_pos c28, if_pos c56])
    · refine xs_iconst (v := 1) dX3_wrong_59 (by decide) ?_
      refine xs_goto (t := 64) dX3_wrong_60 (by decide) ?_
      refine xs_iadd dX3_wrong_64 ?_
      exact xs_iret hX rfl dX3_wrong_65 (by simp only [mBM_wrong, if_pos c28, if_neg c56]) (by simp only [mBM_wrong, if_pos c28, if_neg c56])
theorem k_BM_wrong {X : xz_X} {cA : ClassId} {own : String} {ad : Nat → Nat} {cc : ByteArray} {nL : Nat} {ret : Option FieldType} {R : Room} {s : zT} {pc ix : Nat} {L : List (Nat × Value)} {st : List Value} (d : decode cc pc = .ok (.invokevirtual ix, 3)) (hw : xwV own ix yX3_wrong cX3_wrong 3 (some .int) 0) (hR : xroom R_BM_wrong 3 R) (hst : (st.map fun v => v.category).sum ≤ 8) (hr : rok s) (kk : xs X cA own cc nL ret R (wd ad cA ((mBM_wrong s).2)) 0 0 (pc + 3) L (.int ((mBM_wrong s).1) :: st)) : xs X cA own cc nL ret R (wd ad cA s) 0 0 pc L (.ref (ad 0) :: st) :=
  xs_call 0 (c_BM_wrong ad cA s hr) rfl rfl d hw hR rfl rfl rfl hst ⟨Nat.zero_le _, Nat.zero_le _⟩ kk
abbrev R_BM_size : Room := { frames := 1, cells := 0, slots := 0, locals := 20 }
set_option maxHeartbeats 4000000 in
set_option maxRecDepth 100000 in
theorem c_BM_size (ad : Nat → Nat) (cA : ClassId) (s : zT) : xct cA yX3_size cX3_size 1 (some .int) R_BM_size [.ref (ad 0)] (wd ad cA s) (some (.int (s.2 4 2))) (wd ad cA (s)) := by
  refine xct_of (own := RX3) (by decide) rfl (Nat.le_of_ble_eq_true rfl) (fun X hX => ?_)
  show xs X cA RX3 cX3_size 1 (some .int) R_BM_size (wd ad cA s) 0 0 0 [(0, .ref (ad 0))] []
  refine xs_aload_n 0 dX3_size_0 rfl ?_
  refine g_BM_line dX3_size_1 ?_
  refine k_Ln_count dX3_size_4 kw_BM_Ln_count (by decide) (Nat.le_of_ble_eq_true rfl) ?_
  exact xs_iret hX rfl dX3_size_7 rfl rfl
theorem k_BM_size {X : xz_X} {cA : ClassId} {own : String} {ad : Nat → Nat} {cc : ByteArray} {nL : Nat} {ret : Option FieldType} {R : Room} {s : zT} {pc ix : Nat} {L : List (Nat × Value)} {st : List Value} (d : decode cc pc = .ok (.invokevirtual ix, 3)) (hw : xwV own ix yX3_size cX3_size 1 (some .int) 0) (hR : xroom R_BM_size 1 R) (hst : (st.map fun v => v.category).sum ≤ 8) (kk : xs X cA own cc nL ret R (wd ad cA (s)) 0 0 (pc + 3) L (.int (s.2 4 2) :: st)) : xs X cA own cc nL ret R (wd ad cA s) 0 0 pc L (.ref (ad 0) :: st) :=
  xs_call 0 (c_BM_size ad cA s) rfl rfl d hw hR rfl rfl rfl hst ⟨Nat.zero_le _, Nat.zero_le _⟩ kk
abbrev R_BM_clear : Room := { frames := 2, cells := 0, slots := 0, locals := 43 }
set_option maxRecDepth 100000 in
theorem kw_BM_Ln_drain : xwV RX3 45 yX1_drain cX1_drain 1 none 0 := ⟨⟨xt_of (List.mem_of_getElem? (i := 192) rfl) rfl, xt_of (by decide +kernel) rfl, xt_of (by decide +kernel) rfl, by decide +kernel⟩, xt_of (by decide +kernel) rfl, xt_of (by decide +kernel) rfl⟩
set_option maxRecDepth 100000 in
theorem kw_BM_Bi_drain : xwV RX3 90 yX0_drain cX0_drain 1 none 0 := ⟨⟨xt_of (List.mem_of_getElem? (i := 196) rfl) rfl, xt_of (by decide +kernel) rfl, xt_of (by decide +kernel) rfl, by decide +kernel⟩, xt_of (by decide +kernel) rfl, xt_of (by decide +kernel) rfl⟩
set_option maxHeartbeats 4000000 in
set_option maxRecDepth 100000 in
theorem c_BM_clear (ad : Nat → Nat) (cA : ClassId) (s : zT) : xct cA yX3_clear cX3_clear 2 (some .int) R_BM_clear [.ref (ad 0)] (wd ad cA s) (some (.int (s.2 4 2))) (wd ad cA (mBi_drain (mLn_drain s))) := by
  refine xct_of (own := RX3) (by decide) rfl (Nat.le_of_ble_eq_true rfl) (fun X hX => ?_)
  show xs X cA RX3 cX3_clear 2 (some .int) R_BM_clear (wd ad cA s) 0 0 0 [(0, .ref (ad 0))] []
  refine xs_aload_n 0 dX3_clear_0 rfl ?_
  refine g_BM_line dX3_clear_1 ?_
  refine k_Ln_count dX3_clear_4 kw_BM_Ln_count (by decide) (Nat.le_of_ble_eq_true rfl) ?_
  refine xs_istore_n (L' := [(1, _), (0, _)]) dX3_clear_7 (by decide) rfl ?_
  refine xs_aload_n 1 dX3_clear_8 rfl ?_
  refine g_BM_line dX3_clear_9 ?_
  refine k_Ln_drain dX3_clear_12 kw_BM_Ln_drain (by decide) (Nat.le_of_ble_eq_true rfl) ?_
  refine xs_aload_n 1 dX3_clear_15 rfl ?_
  refine g_BM_bins dX3_clear_16 ?_
  refine k_Bi_drain dX3_clear_19 kw_BM_Bi_drain (by decide) (Nat.le_of_ble_eq_true rfl) ?_
  refine xs_iload_n 0 dX3_clear_22 rfl ?_
  exact xs_iret hX rfl dX3_clear_23 rfl rfl
theorem k_BM_clear {X : xz_X} {cA : ClassId} {own : String} {ad : Nat → Nat} {cc : ByteArray} {nL : Nat} {ret : Option FieldType} {R : Room} {s : zT} {pc ix : Nat} {L : List (Nat × Value)} {st : List Value} (d : decode cc pc = .ok (.invokevirtual ix, 3)) (hw : xwV own ix yX3_clear cX3_clear 2 (some .int) 0) (hR : xroom R_BM_clear 2 R) (hst : (st.map fun v => v.category).sum ≤ 8) (kk : xs X cA own cc nL ret R (wd ad cA (mBi_drain (mLn_drain s))) 0 0 (pc + 3) L (.int (s.2 4 2) :: st)) : xs X cA own cc nL ret R (wd ad cA s) 0 0 pc L (.ref (ad 0) :: st) :=
  xs_call 0 (c_BM_clear ad cA s) rfl rfl d hw hR rfl rfl rfl hst ⟨Nat.zero_le _, Nat.zero_le _⟩ kk
abbrev R_BM_has : Room := { frames := 3, cells := 0, slots := 0, locals := 67 }
set_option maxHeartbeats 4000000 in
set_option maxRecDepth 100000 in
theorem c_BM_has (ad : Nat → Nat) (cA : ClassId) (s : zT) (key : Int32) (hr : rok s) : xct cA yX3_has cX3_has 2 (some .boolean) R_BM_has [.ref (ad 0), .int key] (wd ad cA s) (some (.int (zb (!decide (mBi_find s key = 0))))) (wd ad cA (s)) := by
  refine xct_of (own := RX3) (by decide) rfl (Nat.le_of_ble_eq_true rfl) (fun X hX => ?_)
  show xs X cA RX3 cX3_has 2 (some .boolean) R_BM_has (wd ad cA s) 0 0 0 [(0, .ref (ad 0)), (1, .int key)] []
  refine xs_aload_n 0 dX3_has_0 rfl ?_
  refine g_BM_bins dX3_has_1 ?_
  refine xs_iload_n 1 dX3_has_4 rfl ?_
  refine k_Bi_find dX3_has_5 kw_BM_Bi_find (by decide) (Nat.le_of_ble_eq_true rfl) hr ?_
  refine xs_sif_eq (t := 15) dX3_has_8 (by decide) (fun c8 => ?_) (fun c8 => ?_)
  · refine xs_iconst (v := zb false) dX3_has_15 rfl ?_
    exact xs_zret hX rfl dX3_has_16 (by simp [c8]) rfl
  · refine xs_iconst (v := zb true) dX3_has_11 rfl ?_
    refine xs_goto (t := 16) dX3_has_12 (by decide) ?_
    exact xs_zret hX rfl dX3_has_16 (by simp [c8]) rfl
theorem k_BM_has {X : xz_X} {cA : ClassId} {own : String} {ad : Nat → Nat} {cc : ByteArray} {nL : Nat} {ret : Option FieldType} {R : Room} {s : zT} {pc ix : Nat} {L : List (Nat × Value)} {st : List Value} {key : Int32} (d : decode cc pc = .ok (.invokevirtual ix, 3)) (hw : xwV own ix yX3_has cX3_has 2 (some .boolean) 1) (hR : xroom R_BM_has 2 R) (hst : (st.map fun v => v.category).sum ≤ 8) (hr : rok s) (kk : xs X cA own cc nL ret R (wd ad cA (s)) 0 0 (pc + 3) L (.int (zb (!decide (mBi_find s key = 0))) :: st)) : xs X cA own cc nL ret R (wd ad cA s) 0 0 pc L (.int key :: .ref (ad 0) :: st) :=
  xs_call 0 (c_BM_has ad cA s key hr) rfl rfl d hw hR rfl rfl rfl hst ⟨Nat.zero_le _, Nat.zero_le _⟩ kk
abbrev R_BM_hash : Room := { frames := 4, cells := 0, slots := 0, locals := 85 }
set_option maxRecDepth 100000 in
theorem kw_BM_BM_first : xwV RX3 81 yX3_firstSlot cX3_firstSlot 1 (some .int) 0 := ⟨⟨xt_of (List.mem_of_getElem? (i := 207) rfl) rfl, xt_of (by decide +kernel) rfl, xt_of (by decide +kernel) rfl, by decide +kernel⟩, xt_of (by decide +kernel) rfl, xt_of (by decide +kernel) rfl⟩
set_option maxRecDepth 100000 in
theorem kw_BM_BM_behind : xwV RX3 84 yX3_slotBehind cX3_slotBehind 2 (some .int) 1 := ⟨⟨xt_of (List.mem_of_getElem? (i := 223) rfl) rfl, xt_of (by decide +kernel) rfl, xt_of (by decide +kernel) rfl, by decide +kernel⟩, xt_of (by decide +kernel) rfl, xt_of (by decide +kernel) rfl⟩
set_option maxHeartbeats 4000000 in
set_option maxRecDepth 100000 in
theorem t_BM_hash {X : xz_X} {ad : Nat → Nat} {cA : ClassId} {s : zT} (hr : rok s) : ∀ (n i : Nat) (x : Int32) (a : zS), i + n = (s.2 4 2).toNatClampNeg → xfin X cA 0 0 (some (.int (mBM_hashL s n x a))) (wd ad cA (s)) → xs X cA RX3 cX3_hash 4 (some .int) R_BM_hash (wd ad cA s) 0 0 9 [(3, .int (nI i)), (2, .int (zs a)), (1, .int x), (0, .ref (ad 0))] [] := by
  intro n
  induction n with
  | zero =>
    intro i x a hi hX
    refine xs_iload_n 0 dX3_hash_9 rfl ?_
    refine xs_aload_n 3 dX3_hash_10 rfl ?_
    refine g_BM_line dX3_hash_11 ?_
    refine k_Ln_count dX3_hash_14 kw_BM_Ln_count (by decide) (Nat.le_of_ble_eq_true rfl) ?_
    refine xs_icmp_ge (t := 58) dX3_hash_17 (by decide) (fun c17 => ?_) (fun c17 => ?_)
    · refine xs_iload_n 2 dX3_hash_58 rfl ?_
      exact xs_iret hX rfl dX3_hash_59 rfl rfl
    · exact absurd (cnt_le (by omega) (by have := cnt_lt31 (s.2 4 2); omega)) c17
  | succ n ih =>
    intro i x a hi hX
    refine xs_iload_n 0 dX3_hash_9 rfl ?_
    refine xs_aload_n 3 dX3_hash_10 rfl ?_
    refine g_BM_line dX3_hash_11 ?_
    refine k_Ln_count dX3_hash_14 kw_BM_Ln_count (by decide) (Nat.le_of_ble_eq_true rfl) ?_
    refine xs_icmp_ge (t := 58) dX3_hash_17 (by decide) (fun c17 => ?_) (fun c17 => ?_)
    · exact absurd c17 (cnt_nle (by omega))
    · refine xs_bipush (v := 31) dX3_hash_20 (by decide) ?_
      refine xs_iload_n 2 dX3_hash_22 rfl ?_
      refine xs_imul dX3_hash_23 ?_
      refine xs_aload_n 3 dX3_hash_24 rfl ?_
      refine g_BM_bins dX3_hash_25 ?_
      refine xs_iload_n 1 dX3_hash_28 rfl ?_
      refine k_Bi_keyOf dX3_hash_29 kw_BM_Bi_keyOf (by decide) (Nat.le_of_ble_eq_true rfl) ?_
      refine xs_iadd dX3_hash_32 ?_
      refine xs_istore_n (L' := [(1, _), (3, _), (2, _), (0, _)]) dX3_hash_33 (by decide) rfl ?_
      refine xs_bipush (v := 31) dX3_hash_34 (by decide) ?_
      refine xs_iload_n 0 dX3_hash_36 rfl ?_
      refine xs_imul dX3_hash_37 ?_
      refine xs_aload_n 3 dX3_hash_38 rfl ?_
      refine g_BM_numbers dX3_hash_39 ?_
      refine xs_iload_n 2 dX3_hash_42 rfl ?_
      refine al_I3 dX3_hash_43 ?_
      refine xs_iadd dX3_hash_44 ?_
      refine xs_istore_n (L' := [(1, _), (3, _), (2, _), (0, _)]) dX3_hash_45 (by decide) rfl ?_
      refine xs_aload_n 3 dX3_hash_46 rfl ?_
      refine xs_iload_n 2 dX3_hash_47 rfl ?_
      refine k_BM_behind dX3_hash_48 kw_BM_BM_behind (by decide) (Nat.le_of_ble_eq_true rfl) hr ?_
      refine xs_istore_n (L' := [(2, _), (1, _), (3, _), (0, _)]) dX3_hash_51 (by decide) rfl ?_
      refine xs_iinc_n (L' := [(3, _), (2, _), (1, _), (0, _)]) 2 dX3_hash_52 rfl (by decide) rfl ?_
      refine xs_goto (t := 9) dX3_hash_55 (by decide) ?_
      refine xs_sub (L' := [(3, _), (2, _), (1, _), (0, _)]) [0, 1, 2, 3] rfl ?_
      exact ih _ _ _ (by omega) hX
set_option maxHeartbeats 4000000 in
set_option maxRecDepth 100000 in
theorem c_BM_hash (ad : Nat → Nat) (cA : ClassId) (s : zT) (hr : rok s) : xct cA yX3_hash cX3_hash 4 (some .int) R_BM_hash [.ref (ad 0)] (wd ad cA s) (some (.int (mBM_hash s))) (wd ad cA (s)) := by
  refine xct_of (own := RX3) (by decide) rfl (Nat.le_of_ble_eq_true rfl) (fun X hX => ?_)
  show xs X cA RX3 cX3_hash 4 (some .int) R_BM_hash (wd ad cA s) 0 0 0 [(0, .ref (ad 0))] []
  refine xs_iconst (v := 1) dX3_hash_0 (by decide) ?_
  refine xs_istore_n (L' := [(1, _), (0, _)]) dX3_hash_1 (by decide) rfl ?_
  refine xs_aload_n 1 dX3_hash_2 rfl ?_
  refine k_BM_first dX3_hash_3 kw_BM_BM_first (by decide) (Nat.le_of_ble_eq_true rfl) hr ?_
  refine xs_istore_n (L' := [(2, _), (1, _), (0, _)]) dX3_hash_6 (by decide) rfl ?_
  refine xs_iconst (v := nI 0) dX3_hash_7 rfl ?_
  refine xs_istore_n (L' := [(3, _), (2, _), (1, _), (0, _)]) dX3_hash_8 (by decide) rfl ?_
  refine xs_sub (L' := [(3, _), (2, _), (1, _), (0, _)]) [0, 1, 2, 3] rfl ?_
  exact t_BM_hash hr _ 0 _ _ (Nat.zero_add _) hX
theorem k_BM_hash {X : xz_X} {cA : ClassId} {own : String} {ad : Nat → Nat} {cc : ByteArray} {nL : Nat} {ret : Option FieldType} {R : Room} {s : zT} {pc ix : Nat} {L : List (Nat × Value)} {st : List Value} (d : decode cc pc = .ok (.invokevirtual ix, 3)) (hw : xwV own ix yX3_hash cX3_hash 4 (some .int) 0) (hR : xroom R_BM_hash 4 R) (hst : (st.map fun v => v.category).sum ≤ 8) (hr : rok s) (kk : xs X cA own cc nL ret R (wd ad cA (s)) 0 0 (pc + 3) L (.int (mBM_hash s) :: st)) : xs X cA own cc nL ret R (wd ad cA s) 0 0 pc L (.ref (ad 0) :: st) :=
  xs_call 0 (c_BM_hash ad cA s hr) rfl rfl d hw hR rfl rfl rfl hst ⟨Nat.zero_le _, Nat.zero_le _⟩ kk
