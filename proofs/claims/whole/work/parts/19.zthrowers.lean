set_option maxRecDepth 100000 in
theorem xcl_IllegalArgumentException : Cond.classLink RX3 38 "java/lang/IllegalArgumentException" ∈ xt_tbl := xt_of (by decide +kernel) rfl
set_option maxRecDepth 100000 in
theorem xin_IllegalArgumentException : Cond.instantiable "java/lang/IllegalArgumentException" 6 ∈ xt_tbl := xt_of (by decide +kernel) rfl
set_option maxRecDepth 100000 in
theorem xii_IllegalArgumentException : Cond.initialized "java/lang/IllegalArgumentException" ∈ xt_tbl := xt_of (by decide +kernel) rfl
set_option maxRecDepth 100000 in
theorem xat_IllegalArgumentException : (Bundle.ownAtoms0 RX3 40 "java/lang/IllegalArgumentException" xNm).all xAok = true := by decide +kernel
set_option maxRecDepth 100000 in
theorem xcl_ArithmeticException : Cond.classLink RX3 60 "java/lang/ArithmeticException" ∈ xt_tbl := xt_of (by decide +kernel) rfl
set_option maxRecDepth 100000 in
theorem xin_ArithmeticException : Cond.instantiable "java/lang/ArithmeticException" 6 ∈ xt_tbl := xt_of (by decide +kernel) rfl
set_option maxRecDepth 100000 in
theorem xii_ArithmeticException : Cond.initialized "java/lang/ArithmeticException" ∈ xt_tbl := xt_of (by decide +kernel) rfl
set_option maxRecDepth 100000 in
theorem xat_ArithmeticException : (Bundle.ownAtoms0 RX3 62 "java/lang/ArithmeticException" xNm).all xAok = true := by decide +kernel
set_option maxRecDepth 100000 in
theorem xcl_NoSuchElementException : Cond.classLink RX3 72 "java/util/NoSuchElementException" ∈ xt_tbl := xt_of (by decide +kernel) rfl
set_option maxRecDepth 100000 in
theorem xin_NoSuchElementException : Cond.instantiable "java/util/NoSuchElementException" 6 ∈ xt_tbl := xt_of (by decide +kernel) rfl
set_option maxRecDepth 100000 in
theorem xii_NoSuchElementException : Cond.initialized "java/util/NoSuchElementException" ∈ xt_tbl := xt_of (by decide +kernel) rfl
set_option maxRecDepth 100000 in
theorem xat_NoSuchElementException : (Bundle.ownAtoms0 RX3 74 "java/util/NoSuchElementException" xNm).all xAok = true := by decide +kernel
abbrev R_BM_make : Room := { frames := 3, cells := 0, slots := 0, locals := 64 }
set_option maxRecDepth 100000 in
theorem kw_BM_BM_isMode : xwS RX3 34 yX3_isMode cX3_isMode 2 (some .boolean) 2 := ⟨⟨xt_of (List.mem_of_getElem? (i := 312) rfl) rfl, xt_of (by decide +kernel) rfl, xt_of (by decide +kernel) rfl, by decide +kernel⟩, xt_of (by decide +kernel) rfl⟩
set_option maxRecDepth 100000 in
theorem kw_BM_Bi_begin : xwV RX3 48 yX0_begin cX0_begin 2 none 1 := ⟨⟨xt_of (List.mem_of_getElem? (i := 379) rfl) rfl, xt_of (by decide +kernel) rfl, xt_of (by decide +kernel) rfl, by decide +kernel⟩, xt_of (by decide +kernel) rfl, xt_of (by decide +kernel) rfl⟩
set_option maxHeartbeats 4000000 in
set_option maxRecDepth 100000 in
theorem c_BM_make (ad : Nat → Nat) (cA : ClassId) (s : zT) (mode : Int32) (f : Int32) (most : Int32) (h1 : mBM_isMode mode most = true) (h2 : ¬ f < 0) (h3 : f ≤ 2) : xct cA yX3_make cX3_make 5 (some .int) R_BM_make [.ref (ad 0), .int mode, .int f, .int most] (wd ad cA s) (some (.int (s.2 4 2))) (wd ad cA (mBM_make s mode f most)) := by
  refine xct_of (own := RX3) (by decide) rfl (Nat.le_of_ble_eq_true rfl) (fun X hX => ?_)
  show xs X cA RX3 cX3_make 5 (some .int) R_BM_make (wd ad cA s) 0 0 0 [(0, .ref (ad 0)), (1, .int mode), (2, .int f), (3, .int most)] []
  refine xs_iload_n 1 dX3_make_0 rfl ?_
  refine xs_iload_n 3 dX3_make_1 rfl ?_
  refine k_BM_isMode dX3_make_2 kw_BM_BM_isMode (by decide) (Nat.le_of_ble_eq_true rfl) ?_
  refine xs_bif_eq (t := 17) dX3_make_5 (by decide) (fun c5 => ?_) (fun c5 => ?_)
  · exact absurd (h1.symm.trans c5) (by decide)
  · refine xs_iload_n 2 dX3_make_8 rfl ?_
    refine xs_if_lt (t := 17) dX3_make_9 (by decide) (fun c9 => ?_) (fun c9 => ?_)
    · exact absurd c9 h2
    · refine xs_iload_n 2 dX3_make_12 rfl ?_
      refine xs_iconst (v := 2) dX3_make_13 (by decide) ?_
      refine xs_icmp_le (t := 25) dX3_make_14 (by decide) (fun c14 => ?_) (fun c14 => ?_)
      · refine xs_aload_n 0 dX3_make_25 rfl ?_
        refine g_BM_line dX3_make_26 ?_
        refine k_Ln_count dX3_make_29 kw_BM_Ln_count (by decide) (Nat.le_of_ble_eq_true rfl) ?_
        refine xs_istore (L' := [(4, _), (0, _), (1, _), (2, _), (3, _)]) dX3_make_32 (by decide) rfl ?_
        refine xs_aload_n 1 dX3_make_34 rfl ?_
        refine g_BM_line dX3_make_35 ?_
        refine k_Ln_drain dX3_make_38 kw_BM_Ln_drain (by decide) (Nat.le_of_ble_eq_true rfl) ?_
        refine xs_aload_n 1 dX3_make_41 rfl ?_
        refine g_BM_bins dX3_make_42 ?_
        refine xs_iload_n 3 dX3_make_45 rfl ?_
        refine k_Bi_begin dX3_make_46 kw_BM_Bi_begin (by decide) (Nat.le_of_ble_eq_true rfl) ?_
        refine xs_aload_n 1 dX3_make_49 rfl ?_
        refine xs_iload_n 2 dX3_make_50 rfl ?_
        refine p_BM_mode dX3_make_51 ?_
        refine xs_aload_n 1 dX3_make_54 rfl ?_
        refine xs_iload_n 4 dX3_make_55 rfl ?_
        refine p_BM_most dX3_make_56 ?_
        refine xs_iload 0 dX3_make_59 rfl ?_
        exact xs_iret hX rfl dX3_make_61 rfl rfl
      · exact absurd h3 c14
theorem k_BM_make {X : xz_X} {cA : ClassId} {own : String} {ad : Nat → Nat} {cc : ByteArray} {nL : Nat} {ret : Option FieldType} {R : Room} {s : zT} {pc ix : Nat} {L : List (Nat × Value)} {st : List Value} {mode : Int32} {f : Int32} {most : Int32} (d : decode cc pc = .ok (.invokevirtual ix, 3)) (hw : xwV own ix yX3_make cX3_make 5 (some .int) 3) (hR : xroom R_BM_make 5 R) (hst : (st.map fun v => v.category).sum ≤ 8) (h1 : mBM_isMode mode most = true) (h2 : ¬ f < 0) (h3 : f ≤ 2) (kk : xs X cA own cc nL ret R (wd ad cA (mBM_make s mode f most)) 0 0 (pc + 3) L (.int (s.2 4 2) :: st)) : xs X cA own cc nL ret R (wd ad cA s) 0 0 pc L (.int most :: .int f :: .int mode :: .ref (ad 0) :: st) :=
  xs_call 0 (c_BM_make ad cA s mode f most h1 h2 h3) rfl rfl d hw hR rfl rfl rfl hst ⟨Nat.zero_le _, Nat.zero_le _⟩ kk
abbrev RT_BM_make : Room := { frames := 6, cells := 1, slots := 6, locals := 81 }
set_option maxHeartbeats 4000000 in
set_option maxRecDepth 100000 in
theorem cT_BM_make (ad : Nat → Nat) (cA : ClassId) (s : zT) (mode : Int32) (f : Int32) (most : Int32) (h : mBM_isMode mode most = false ∨ f < 0 ∨ ¬ f ≤ 2) : xctT cA yX3_make cX3_make 5 (some .int) RT_BM_make [.ref (ad 0), .int mode, .int f, .int most] (wd ad cA s) "java/lang/IllegalArgumentException" := by
  refine xctT_of (own := RX3) (by decide) rfl (Nat.le_of_ble_eq_true rfl) (fun X hX hEx => ?_)
  show xs X cA RX3 cX3_make 5 (some .int) RT_BM_make (wd ad cA s) 0 0 0 [(0, .ref (ad 0)), (1, .int mode), (2, .int f), (3, .int most)] []
  refine xs_iload_n 1 dX3_make_0 rfl ?_
  refine xs_iload_n 3 dX3_make_1 rfl ?_
  refine k_BM_isMode dX3_make_2 kw_BM_BM_isMode (by decide) (Nat.le_of_ble_eq_true rfl) ?_
  refine xs_bif_eq (t := 17) dX3_make_5 (by decide) (fun c5 => ?_) (fun c5 => ?_)
  · exact xs_throw hX hEx dX3_make_17 dX3_make_20 dX3_make_21 dX3_make_24 xcl_IllegalArgumentException xin_IllegalArgumentException xii_IllegalArgumentException xat_IllegalArgumentException (by decide) (by decide)
  · refine xs_iload_n 2 dX3_make_8 rfl ?_
    refine xs_if_lt (t := 17) dX3_make_9 (by decide) (fun c9 => ?_) (fun c9 => ?_)
    · exact xs_throw hX hEx dX3_make_17 dX3_make_20 dX3_make_21 dX3_make_24 xcl_IllegalArgumentException xin_IllegalArgumentException xii_IllegalArgumentException xat_IllegalArgumentException (by decide) (by decide)
    · refine xs_iload_n 2 dX3_make_12 rfl ?_
      refine xs_iconst (v := 2) dX3_make_13 (by decide) ?_
      refine xs_icmp_le (t := 25) dX3_make_14 (by decide) (fun c14 => ?_) (fun c14 => ?_)
      · rcases h with h | h | h
        · exact absurd (c5.symm.trans h) (by decide)
        · exact absurd h c9
        · exact absurd c14 h
      · exact xs_throw hX hEx dX3_make_17 dX3_make_20 dX3_make_21 dX3_make_24 xcl_IllegalArgumentException xin_IllegalArgumentException xii_IllegalArgumentException xat_IllegalArgumentException (by decide) (by decide)
abbrev R_BM_put : Room := { frames := 7, cells := 0, slots := 0, locals := 166 }
set_option maxRecDepth 100000 in
theorem kw_BM_BM_fits : xwV RX3 56 yX3_fits cX3_fits 2 (some .boolean) 1 := ⟨⟨xt_of (List.mem_of_getElem? (i := 392) rfl) rfl, xt_of (by decide +kernel) rfl, xt_of (by decide +kernel) rfl, by decide +kernel⟩, xt_of (by decide +kernel) rfl, xt_of (by decide +kernel) rfl⟩
set_option maxRecDepth 100000 in
theorem kw_BM_BM_come : xwV RX3 63 yX3_come cX3_come 6 none 2 := ⟨⟨xt_of (List.mem_of_getElem? (i := 411) rfl) rfl, xt_of (by decide +kernel) rfl, xt_of (by decide +kernel) rfl, by decide +kernel⟩, xt_of (by decide +kernel) rfl, xt_of (by decide +kernel) rfl⟩
set_option maxRecDepth 100000 in
theorem kw_BM_BM_change : xwV RX3 69 yX3_change cX3_change 3 none 2 := ⟨⟨xt_of (List.mem_of_getElem? (i := 497) rfl) rfl, xt_of (by decide +kernel) rfl, xt_of (by decide +kernel) rfl, by decide +kernel⟩, xt_of (by decide +kernel) rfl, xt_of (by decide +kernel) rfl⟩
set_option maxHeartbeats 4000000 in
set_option maxRecDepth 100000 in
theorem c_BM_put (ad : Nat → Nat) (cA : ClassId) (s : zT) (key : Int32) (x : Int32) (hr : rok s) (hf : mBM_fits s (mBi_find s key) = true) : xct cA yX3_put cX3_put 5 (some .long) R_BM_put [.ref (ad 0), .int key, .int x] (wd ad cA s) (some (.long ((mBM_put s key x).1))) (wd ad cA ((mBM_put s key x).2)) := by
  refine xct_of (own := RX3) (by decide) rfl (Nat.le_of_ble_eq_true rfl) (fun X hX => ?_)
  show xs X cA RX3 cX3_put 5 (some .long) R_BM_put (wd ad cA s) 0 0 0 [(0, .ref (ad 0)), (1, .int key), (2, .int x)] []
  refine xs_aload_n 0 dX3_put_0 rfl ?_
  refine g_BM_bins dX3_put_1 ?_
  refine xs_iload_n 1 dX3_put_4 rfl ?_
  refine k_Bi_find dX3_put_5 kw_BM_Bi_find (by decide) (Nat.le_of_ble_eq_true rfl) hr ?_
  refine xs_istore_n (L' := [(3, _), (0, _), (1, _), (2, _)]) dX3_put_8 (by decide) rfl ?_
  refine xs_aload_n 1 dX3_put_9 rfl ?_
  refine xs_iload_n 0 dX3_put_10 rfl ?_
  refine k_BM_fits dX3_put_11 kw_BM_BM_fits (by decide) (Nat.le_of_ble_eq_true rfl) ?_
  refine xs_bif_ne (t := 25) dX3_put_14 (by decide) (fun c14 => ?_) (fun c14 => ?_)
  · refine xs_iload_n 0 dX3_put_25 rfl ?_
    refine xs_sif_ne (t := 39) dX3_put_26 (by decide) (fun c26 => ?_) (fun c26 => ?_)
    · refine xs_aload_n 1 dX3_put_39 rfl ?_
      refine g_BM_numbers dX3_put_40 ?_
      refine xs_iload_n 0 dX3_put_43 rfl ?_
      refine al_I3 dX3_put_44 ?_
      refine xs_istore (L' := [(4, _), (3, _), (0, _), (1, _), (2, _)]) dX3_put_45 (by decide) rfl ?_
      refine xs_aload_n 2 dX3_put_47 rfl ?_
      refine xs_iload_n 1 dX3_put_48 rfl ?_
      refine xs_iload_n 4 dX3_put_49 rfl ?_
      refine k_BM_change dX3_put_50 kw_BM_BM_change (by decide) (Nat.le_of_ble_eq_true rfl) ?_
      refine xs_iload 0 dX3_put_53 rfl ?_
      refine xs_i2l dX3_put_55 ?_
      exact xs_lret hX rfl dX3_put_56 (by simp only [mBM_put, c14, ↓reduceIte, Bool.false_eq_true, if_neg c26]) (by simp only [mBM_put, c14, ↓reduceIte, Bool.false_eq_true, if_neg c26])
    · refine xs_aload_n 1 dX3_put_29 rfl ?_
      refine xs_iload_n 2 dX3_put_30 rfl ?_
      refine xs_iload_n 3 dX3_put_31 rfl ?_
      refine k_BM_come dX3_put_32 kw_BM_BM_come (by decide) (Nat.le_of_ble_eq_true rfl) hr ?_
      refine xs_ldc2 (v := 4294967296) dX3_put_35 (xt_of (by decide +kernel) rfl) ?_
      exact xs_lret hX rfl dX3_put_38 (by simp only [mBM_put, c14, ↓reduceIte, Bool.false_eq_true, if_pos c26]) (by simp only [mBM_put, c14, ↓reduceIte, Bool.false_eq_true, if_pos c26])
  · exact absurd (hf.symm.trans c14) (by decide)
theorem k_BM_put {X : xz_X} {cA : ClassId} {own : String} {ad : Nat → Nat} {cc : ByteArray} {nL : Nat} {ret : Option FieldType} {R : Room} {s : zT} {pc ix : Nat} {L : List (Nat × Value)} {st : List Value} {key : Int32} {x : Int32} (d : decode cc pc = .ok (.invokevirtual ix, 3)) (hw : xwV own ix yX3_put cX3_put 5 (some .long) 2) (hR : xroom R_BM_put 5 R) (hst : (st.map fun v => v.category).sum ≤ 8) (hr : rok s) (hf : mBM_fits s (mBi_find s key) = true) (kk : xs X cA own cc nL ret R (wd ad cA ((mBM_put s key x).2)) 0 0 (pc + 3) L (.long ((mBM_put s key x).1) :: st)) : xs X cA own cc nL ret R (wd ad cA s) 0 0 pc L (.int x :: .int key :: .ref (ad 0) :: st) :=
  xs_call 0 (c_BM_put ad cA s key x hr hf) rfl rfl d hw hR rfl rfl rfl hst ⟨Nat.zero_le _, Nat.zero_le _⟩ kk
abbrev RT_BM_put : Room := { frames := 7, cells := 1, slots := 6, locals := 166 }
set_option maxHeartbeats 4000000 in
set_option maxRecDepth 100000 in
theorem cT_BM_put (ad : Nat → Nat) (cA : ClassId) (s : zT) (key : Int32) (x : Int32) (hr : rok s) (hf : mBM_fits s (mBi_find s key) = false) : xctT cA yX3_put cX3_put 5 (some .long) RT_BM_put [.ref (ad 0), .int key, .int x] (wd ad cA s) "java/lang/ArithmeticException" := by
  refine xctT_of (own := RX3) (by decide) rfl (Nat.le_of_ble_eq_true rfl) (fun X hX hEx => ?_)
  show xs X cA RX3 cX3_put 5 (some .long) RT_BM_put (wd ad cA s) 0 0 0 [(0, .ref (ad 0)), (1, .int key), (2, .int x)] []
  refine xs_aload_n 0 dX3_put_0 rfl ?_
  refine g_BM_bins dX3_put_1 ?_
  refine xs_iload_n 1 dX3_put_4 rfl ?_
  refine k_Bi_find dX3_put_5 kw_BM_Bi_find (by decide) (Nat.le_of_ble_eq_true rfl) hr ?_
  refine xs_istore_n (L' := [(3, _), (0, _), (1, _), (2, _)]) dX3_put_8 (by decide) rfl ?_
  refine xs_aload_n 1 dX3_put_9 rfl ?_
  refine xs_iload_n 0 dX3_put_10 rfl ?_
  refine k_BM_fits dX3_put_11 kw_BM_BM_fits (by decide) (Nat.le_of_ble_eq_true rfl) ?_
  refine xs_bif_ne (t := 25) dX3_put_14 (by decide) (fun c14 => ?_) (fun c14 => ?_)
  · exact absurd (hf.symm.trans c14) (by decide)
  · exact xs_throw hX hEx dX3_put_17 dX3_put_20 dX3_put_21 dX3_put_24 xcl_ArithmeticException xin_ArithmeticException xii_ArithmeticException xat_ArithmeticException (by decide) (by decide)
abbrev R_BM_find : Room := { frames := 6, cells := 0, slots := 0, locals := 141 }
set_option maxHeartbeats 4000000 in
set_option maxRecDepth 100000 in
theorem c_BM_find (ad : Nat → Nat) (cA : ClassId) (s : zT) (key : Int32) (tk : Bool) (hr : rok s) (hf : ¬ mBi_find s key = 0) : xct cA yX3_find cX3_find 5 (some .int) R_BM_find [.ref (ad 0), .int key, .int (zb tk)] (wd ad cA s) (some (.int ((mBM_find s key tk).1))) (wd ad cA ((mBM_find s key tk).2)) := by
  refine xct_of (own := RX3) (by decide) rfl (Nat.le_of_ble_eq_true rfl) (fun X hX => ?_)
  show xs X cA RX3 cX3_find 5 (some .int) R_BM_find (wd ad cA s) 0 0 0 [(0, .ref (ad 0)), (1, .int key), (2, .int (zb tk))] []
  refine xs_aload_n 0 dX3_find_0 rfl ?_
  refine g_BM_bins dX3_find_1 ?_
  refine xs_iload_n 1 dX3_find_4 rfl ?_
  refine k_Bi_find dX3_find_5 kw_BM_Bi_find (by decide) (Nat.le_of_ble_eq_true rfl) hr ?_
  refine xs_istore_n (L' := [(3, _), (0, _), (1, _), (2, _)]) dX3_find_8 (by decide) rfl ?_
  refine xs_iload_n 0 dX3_find_9 rfl ?_
  refine xs_sif_ne (t := 21) dX3_find_10 (by decide) (fun c10 => ?_) (fun c10 => ?_)
  · refine xs_aload_n 1 dX3_find_21 rfl ?_
    refine g_BM_numbers dX3_find_22 ?_
    refine xs_iload_n 0 dX3_find_25 rfl ?_
    refine al_I3 dX3_find_26 ?_
    refine xs_istore (L' := [(4, _), (3, _), (0, _), (1, _), (2, _)]) dX3_find_27 (by decide) rfl ?_
    refine xs_iload_n 4 dX3_find_29 rfl ?_
    refine xs_bif_eq (t := 41) dX3_find_30 (by decide) (fun c30 => ?_) (fun c30 => ?_)
    · refine xs_aload_n 2 dX3_find_41 rfl ?_
      refine xs_iload_n 1 dX3_find_42 rfl ?_
      refine k_BM_touch dX3_find_43 kw_BM_BM_touch (by decide) (Nat.le_of_ble_eq_true rfl) ?_
      refine xs_iload 0 dX3_find_46 rfl ?_
      exact xs_iret hX rfl dX3_find_48 rfl (by simp only [mBM_find, if_neg c10, c30, ↓reduceIte, Bool.false_eq_true])
    · refine xs_aload_n 2 dX3_find_33 rfl ?_
      refine xs_iload_n 1 dX3_find_34 rfl ?_
      refine k_BM_go dX3_find_35 kw_BM_BM_go (by decide) (Nat.le_of_ble_eq_true rfl) hr ?_
      refine xs_goto (t := 46) dX3_find_38 (by decide) ?_
      refine xs_iload 0 dX3_find_46 rfl ?_
      exact xs_iret hX rfl dX3_find_48 rfl (by simp only [mBM_find, if_neg c10, c30, ↓reduceIte, Bool.false_eq_true])
  · exact absurd c10 hf
theorem k_BM_find {X : xz_X} {cA : ClassId} {own : String} {ad : Nat → Nat} {cc : ByteArray} {nL : Nat} {ret : Option FieldType} {R : Room} {s : zT} {pc ix : Nat} {L : List (Nat × Value)} {st : List Value} {key : Int32} {tk : Bool} (d : decode cc pc = .ok (.invokevirtual ix, 3)) (hw : xwV own ix yX3_find cX3_find 5 (some .int) 2) (hR : xroom R_BM_find 5 R) (hst : (st.map fun v => v.category).sum ≤ 8) (hr : rok s) (hf : ¬ mBi_find s key = 0) (kk : xs X cA own cc nL ret R (wd ad cA ((mBM_find s key tk).2)) 0 0 (pc + 3) L (.int ((mBM_find s key tk).1) :: st)) : xs X cA own cc nL ret R (wd ad cA s) 0 0 pc L (.int (zb tk) :: .int key :: .ref (ad 0) :: st) :=
  xs_call 0 (c_BM_find ad cA s key tk hr hf) rfl rfl d hw hR rfl rfl rfl hst ⟨Nat.zero_le _, Nat.zero_le _⟩ kk
abbrev RT_BM_find : Room := { frames := 6, cells := 1, slots := 6, locals := 141 }
set_option maxHeartbeats 4000000 in
set_option maxRecDepth 100000 in
theorem cT_BM_find (ad : Nat → Nat) (cA : ClassId) (s : zT) (key : Int32) (tk : Bool) (hr : rok s) (hf : mBi_find s key = 0) : xctT cA yX3_find cX3_find 5 (some .int) RT_BM_find [.ref (ad 0), .int key, .int (zb tk)] (wd ad cA s) "java/util/NoSuchElementException" := by
  refine xctT_of (own := RX3) (by decide) rfl (Nat.le_of_ble_eq_true rfl) (fun X hX hEx => ?_)
  show xs X cA RX3 cX3_find 5 (some .int) RT_BM_find (wd ad cA s) 0 0 0 [(0, .ref (ad 0)), (1, .int key), (2, .int (zb tk))] []
  refine xs_aload_n 0 dX3_find_0 rfl ?_
  refine g_BM_bins dX3_find_1 ?_
  refine xs_iload_n 1 dX3_find_4 rfl ?_
  refine k_Bi_find dX3_find_5 kw_BM_Bi_find (by decide) (Nat.le_of_ble_eq_true rfl) hr ?_
  refine xs_istore_n (L' := [(3, _), (0, _), (1, _), (2, _)]) dX3_find_8 (by decide) rfl ?_
  refine xs_iload_n 0 dX3_find_9 rfl ?_
  refine xs_sif_ne (t := 21) dX3_find_10 (by decide) (fun c10 => ?_) (fun c10 => ?_)
  · exact absurd hf c10
  · exact xs_throw hX hEx dX3_find_13 dX3_find_16 dX3_find_17 dX3_find_20 xcl_NoSuchElementException xin_NoSuchElementException xii_NoSuchElementException xat_NoSuchElementException (by decide) (by decide)
abbrev R_BM_fill : Room := { frames := 7, cells := 0, slots := 0, locals := 166 }
set_option maxHeartbeats 4000000 in
set_option maxRecDepth 100000 in
theorem t_BM_fill {X : xz_X} {ad : Nat → Nat} {cA : ClassId} {step nn : Int32} : ∀ (m i : Nat) (key : Int32) (s : zT), rok s → i + m = nn.toNatClampNeg → xfin X cA 0 0 (some (.int ((mBM_fillL step m i key s).2 4 2))) (wd ad cA (mBM_fillL step m i key s)) → xs X cA RX3 cX3_fill 7 (some .int) R_BM_fill (wd ad cA s) 0 0 25 [(5, .int (nI i)), (4, .int key), (3, .int nn), (2, .int step), (0, .ref (ad 0))] [] := by
  intro m
  induction m with
  | zero =>
    intro i key s hr hi hX
    refine xs_iload 0 dX3_fill_25 rfl ?_
    refine xs_iload_n 2 dX3_fill_27 rfl ?_
    refine xs_icmp_ge (t := 90) dX3_fill_28 (by decide) (fun c28 => ?_) (fun c28 => ?_)
    · refine xs_aload_n 4 dX3_fill_90 rfl ?_
      refine g_BM_line dX3_fill_91 ?_
      refine k_Ln_count dX3_fill_94 kw_BM_Ln_count (by decide) (Nat.le_of_ble_eq_true rfl) ?_
      exact xs_iret hX rfl dX3_fill_97 rfl rfl
    · exact absurd (cnt_le (by omega) (by have := cnt_lt31 nn; omega)) c28
  | succ m ih =>
    intro i key s hr hi hX
    refine xs_iload 0 dX3_fill_25 rfl ?_
    refine xs_iload_n 2 dX3_fill_27 rfl ?_
    refine xs_icmp_ge (t := 90) dX3_fill_28 (by decide) (fun c28 => ?_) (fun c28 => ?_)
    · exact absurd c28 (cnt_nle (by omega))
    · refine xs_aload_n 4 dX3_fill_31 rfl ?_
      refine g_BM_bins dX3_fill_32 ?_
      refine xs_iload 1 dX3_fill_35 rfl ?_
      refine k_Bi_find dX3_fill_37 kw_BM_Bi_find (by decide) (Nat.le_of_ble_eq_true rfl) hr ?_
      refine xs_istore (L' := [(6, _), (5, _), (4, _), (3, _), (2, _), (0, _)]) dX3_fill_40 (by decide) rfl ?_
      refine xs_aload_n 5 dX3_fill_42 rfl ?_
      refine xs_iload 0 dX3_fill_43 rfl ?_
      refine k_BM_fits dX3_fill_45 kw_BM_BM_fits (by decide) (Nat.le_of_ble_eq_true rfl) ?_
      refine xs_bif_ne (t := 54) dX3_fill_48 (by decide) (fun c48 => ?_) (fun c48 => ?_)
      · refine xs_iload 0 dX3_fill_54 rfl ?_
        refine xs_sif_ne (t := 70) dX3_fill_56 (by decide) (fun c56 => ?_) (fun c56 => ?_)
        · refine xs_aload_n 5 dX3_fill_70 rfl ?_
          refine xs_iload 0 dX3_fill_71 rfl ?_
          refine xs_iload 1 dX3_fill_73 rfl ?_
          refine k_BM_change dX3_fill_75 kw_BM_BM_change (by decide) (Nat.le_of_ble_eq_true rfl) ?_
          refine xs_iload 2 dX3_fill_78 rfl ?_
          refine xs_iload_n 4 dX3_fill_80 rfl ?_
          refine xs_iadd dX3_fill_81 ?_
          refine xs_istore (L' := [(4, _), (6, _), (5, _), (3, _), (2, _), (0, _)]) dX3_fill_82 (by decide) rfl ?_
          refine xs_iinc_n (L' := [(5, _), (4, _), (6, _), (3, _), (2, _), (0, _)]) 2 dX3_fill_84 rfl (by decide) rfl ?_
          refine xs_goto (t := 25) dX3_fill_87 (by decide) ?_
          refine xs_sub (L' := [(5, _), (4, _), (3, _), (2, _), (0, _)]) [0, 1, 3, 4, 5] rfl ?_
          exact ih _ _ _ (by first | exact rok_come hr | exact rok_change hr) (by omega) (by simp only [mBM_fillL, if_neg c28, c48, ↓reduceIte, Bool.false_eq_true, if_neg c56] at hX; exact hX)
        · refine xs_aload_n 5 dX3_fill_59 rfl ?_
          refine xs_iload 2 dX3_fill_60 rfl ?_
          refine xs_iload 1 dX3_fill_62 rfl ?_
          refine k_BM_come dX3_fill_64 kw_BM_BM_come (by decide) (Nat.le_of_ble_eq_true rfl) hr ?_
          refine xs_goto (t := 78) dX3_fill_67 (by decide) ?_
          refine xs_iload 2 dX3_fill_78 rfl ?_
          refine xs_iload_n 4 dX3_fill_80 rfl ?_
          refine xs_iadd dX3_fill_81 ?_
          refine xs_istore (L' := [(4, _), (6, _), (5, _), (3, _), (2, _), (0, _)]) dX3_fill_82 (by decide) rfl ?_
          refine xs_iinc_n (L' := [(5, _), (4, _), (6, _), (3, _), (2, _), (0, _)]) 2 dX3_fill_84 rfl (by decide) rfl ?_
          refine xs_goto (t := 25) dX3_fill_87 (by decide) ?_
          refine xs_sub (L' := [(5, _), (4, _), (3, _), (2, _), (0, _)]) [0, 1, 3, 4, 5] rfl ?_
          exact ih _ _ _ (by first | exact rok_come hr | exact rok_change hr) (by omega) (by simp only [mBM_fillL, if_neg c28, c48, ↓reduceIte, Bool.false_eq_true, if_pos c56] at hX; exact hX)
      · refine xs_goto (t := 90) dX3_fill_51 (by decide) ?_
        refine xs_aload_n 5 dX3_fill_90 rfl ?_
        refine g_BM_line dX3_fill_91 ?_
        refine k_Ln_count dX3_fill_94 kw_BM_Ln_count (by decide) (Nat.le_of_ble_eq_true rfl) ?_
        exact xs_iret hX rfl dX3_fill_97 (by simp only [mBM_fillL, if_neg c28, c48, ↓reduceIte, Bool.false_eq_true]) (by simp only [mBM_fillL, if_neg c28, c48, ↓reduceIte, Bool.false_eq_true])
set_option maxHeartbeats 4000000 in
set_option maxRecDepth 100000 in
theorem c_BM_fill (ad : Nat → Nat) (cA : ClassId) (s : zT) (x : Int32) (step : Int32) (nn : Int32) (hr : rok s) (h1 : ¬ nn < 0) (h2 : nn ≤ 2000) : xct cA yX3_fill cX3_fill 7 (some .int) R_BM_fill [.ref (ad 0), .int x, .int step, .int nn] (wd ad cA s) (some (.int ((mBM_fillL step nn.toNatClampNeg 0 x s).2 4 2))) (wd ad cA (mBM_fillL step nn.toNatClampNeg 0 x s)) := by
  refine xct_of (own := RX3) (by decide) rfl (Nat.le_of_ble_eq_true rfl) (fun X hX => ?_)
  show xs X cA RX3 cX3_fill 7 (some .int) R_BM_fill (wd ad cA s) 0 0 0 [(0, .ref (ad 0)), (1, .int x), (2, .int step), (3, .int nn)] []
  refine xs_iload_n 3 dX3_fill_0 rfl ?_
  refine xs_if_lt (t := 11) dX3_fill_1 (by decide) (fun c1 => ?_) (fun c1 => ?_)
  · exact absurd c1 h1
  · refine xs_iload_n 3 dX3_fill_4 rfl ?_
    refine xs_sipush (v := 2000) dX3_fill_5 (by decide) ?_
    refine xs_icmp_le (t := 19) dX3_fill_8 (by decide) (fun c8 => ?_) (fun c8 => ?_)
    · refine xs_iload_n 1 dX3_fill_19 rfl ?_
      refine xs_istore (L' := [(4, _), (0, _), (1, _), (2, _), (3, _)]) dX3_fill_20 (by decide) rfl ?_
      refine xs_iconst (v := nI 0) dX3_fill_22 rfl ?_
      refine xs_istore (L' := [(5, _), (4, _), (0, _), (1, _), (2, _), (3, _)]) dX3_fill_23 (by decide) rfl ?_
      refine xs_sub (L' := [(5, _), (4, _), (3, _), (2, _), (0, _)]) [0, 1, 5, 4, 2] rfl ?_
      exact t_BM_fill nn.toNatClampNeg 0 _ _ hr (Nat.zero_add _) hX
    · exact absurd h2 c8
theorem k_BM_fill {X : xz_X} {cA : ClassId} {own : String} {ad : Nat → Nat} {cc : ByteArray} {nL : Nat} {ret : Option FieldType} {R : Room} {s : zT} {pc ix : Nat} {L : List (Nat × Value)} {st : List Value} {x : Int32} {step : Int32} {nn : Int32} (d : decode cc pc = .ok (.invokevirtual ix, 3)) (hw : xwV own ix yX3_fill cX3_fill 7 (some .int) 3) (hR : xroom R_BM_fill 7 R) (hst : (st.map fun v => v.category).sum ≤ 8) (hr : rok s) (h1 : ¬ nn < 0) (h2 : nn ≤ 2000) (kk : xs X cA own cc nL ret R (wd ad cA (mBM_fillL step nn.toNatClampNeg 0 x s)) 0 0 (pc + 3) L (.int ((mBM_fillL step nn.toNatClampNeg 0 x s).2 4 2) :: st)) : xs X cA own cc nL ret R (wd ad cA s) 0 0 pc L (.int nn :: .int step :: .int x :: .ref (ad 0) :: st) :=
  xs_call 0 (c_BM_fill ad cA s x step nn hr h1 h2) rfl rfl d hw hR rfl rfl rfl hst ⟨Nat.zero_le _, Nat.zero_le _⟩ kk
abbrev RT_BM_fill : Room := { frames := 7, cells := 1, slots := 6, locals := 166 }
set_option maxHeartbeats 4000000 in
set_option maxRecDepth 100000 in
theorem cT_BM_fill (ad : Nat → Nat) (cA : ClassId) (s : zT) (x : Int32) (step : Int32) (nn : Int32) (h : nn < 0 ∨ ¬ nn ≤ 2000) : xctT cA yX3_fill cX3_fill 7 (some .int) RT_BM_fill [.ref (ad 0), .int x, .int step, .int nn] (wd ad cA s) "java/lang/IllegalArgumentException" := by
  refine xctT_of (own := RX3) (by decide) rfl (Nat.le_of_ble_eq_true rfl) (fun X hX hEx => ?_)
  show xs X cA RX3 cX3_fill 7 (some .int) RT_BM_fill (wd ad cA s) 0 0 0 [(0, .ref (ad 0)), (1, .int x), (2, .int step), (3, .int nn)] []
  refine xs_iload_n 3 dX3_fill_0 rfl ?_
  refine xs_if_lt (t := 11) dX3_fill_1 (by decide) (fun c1 => ?_) (fun c1 => ?_)
  · exact xs_throw hX hEx dX3_fill_11 dX3_fill_14 dX3_fill_15 dX3_fill_18 xcl_IllegalArgumentException xin_IllegalArgumentException xii_IllegalArgumentException xat_IllegalArgumentException (by decide) (by decide)
  · refine xs_iload_n 3 dX3_fill_4 rfl ?_
    refine xs_sipush (v := 2000) dX3_fill_5 (by decide) ?_
    refine xs_icmp_le (t := 19) dX3_fill_8 (by decide) (fun c8 => ?_) (fun c8 => ?_)
    · rcases h with h | h
      · exact absurd h c1
      · exact absurd c8 h
    · exact xs_throw hX hEx dX3_fill_11 dX3_fill_14 dX3_fill_15 dX3_fill_18 xcl_IllegalArgumentException xin_IllegalArgumentException xii_IllegalArgumentException xat_IllegalArgumentException (by decide) (by decide)
abbrev R_BM_at : Room := { frames := 4, cells := 0, slots := 0, locals := 85 }
set_option maxHeartbeats 4000000 in
set_option maxRecDepth 100000 in
theorem t_BM_at {X : xz_X} {ad : Nat → Nat} {cA : ClassId} {s : zT} {i : Int32} (hr : rok s) : ∀ (m j : Nat) (a : zS), j + m = i.toNatClampNeg → xfin X cA 0 0 (some (.int (s.2 0 (mBM_walkL s m a)))) (wd ad cA (s)) → xs X cA RX3 cX3_at 4 (some .int) R_BM_at (wd ad cA s) 0 0 30 [(3, .int (nI j)), (2, .int (zs a)), (1, .int i), (0, .ref (ad 0))] [] := by
  intro m
  induction m with
  | zero =>
    intro j a hi hX
    refine xs_iload_n 0 dX3_at_30 rfl ?_
    refine xs_iload_n 2 dX3_at_31 rfl ?_
    refine xs_icmp_ge (t := 47) dX3_at_32 (by decide) (fun c32 => ?_) (fun c32 => ?_)
    · refine xs_aload_n 3 dX3_at_47 rfl ?_
      refine g_BM_bins dX3_at_48 ?_
      refine xs_iload_n 1 dX3_at_51 rfl ?_
      refine k_Bi_keyOf dX3_at_52 kw_BM_Bi_keyOf (by decide) (Nat.le_of_ble_eq_true rfl) ?_
      exact xs_iret hX rfl dX3_at_55 rfl rfl
    · exact absurd (cnt_le (by omega) (by have := cnt_lt31 i; omega)) c32
  | succ m ih =>
    intro j a hi hX
    refine xs_iload_n 0 dX3_at_30 rfl ?_
    refine xs_iload_n 2 dX3_at_31 rfl ?_
    refine xs_icmp_ge (t := 47) dX3_at_32 (by decide) (fun c32 => ?_) (fun c32 => ?_)
    · exact absurd c32 (cnt_nle (by omega))
    · refine xs_aload_n 3 dX3_at_35 rfl ?_
      refine xs_iload_n 1 dX3_at_36 rfl ?_
      refine k_BM_behind dX3_at_37 kw_BM_BM_behind (by decide) (Nat.le_of_ble_eq_true rfl) hr ?_
      refine xs_istore_n (L' := [(2, _), (3, _), (1, _), (0, _)]) dX3_at_40 (by decide) rfl ?_
      refine xs_iinc_n (L' := [(3, _), (2, _), (1, _), (0, _)]) 1 dX3_at_41 rfl (by decide) rfl ?_
      refine xs_goto (t := 30) dX3_at_44 (by decide) ?_
      refine xs_sub (L' := [(3, _), (2, _), (1, _), (0, _)]) [0, 1, 2, 3] rfl ?_
      exact ih _ _ (by omega) hX
set_option maxHeartbeats 4000000 in
set_option maxRecDepth 100000 in
theorem c_BM_at (ad : Nat → Nat) (cA : ClassId) (s : zT) (i : Int32) (hr : rok s) (h1 : ¬ i < 0) (h2 : i < s.2 4 2) : xct cA yX3_at cX3_at 4 (some .int) R_BM_at [.ref (ad 0), .int i] (wd ad cA s) (some (.int (mBM_at s i))) (wd ad cA (s)) := by
  refine xct_of (own := RX3) (by decide) rfl (Nat.le_of_ble_eq_true rfl) (fun X hX => ?_)
  show xs X cA RX3 cX3_at 4 (some .int) R_BM_at (wd ad cA s) 0 0 0 [(0, .ref (ad 0)), (1, .int i)] []
  refine xs_iload_n 1 dX3_at_0 rfl ?_
  refine xs_if_lt (t := 15) dX3_at_1 (by decide) (fun c1 => ?_) (fun c1 => ?_)
  · exact absurd c1 h1
  · refine xs_iload_n 1 dX3_at_4 rfl ?_
    refine xs_aload_n 0 dX3_at_5 rfl ?_
    refine g_BM_line dX3_at_6 ?_
    refine k_Ln_count dX3_at_9 kw_BM_Ln_count (by decide) (Nat.le_of_ble_eq_true rfl) ?_
    refine xs_icmp_lt (t := 23) dX3_at_12 (by decide) (fun c12 => ?_) (fun c12 => ?_)
    · refine xs_aload_n 0 dX3_at_23 rfl ?_
      refine k_BM_first dX3_at_24 kw_BM_BM_first (by decide) (Nat.le_of_ble_eq_true rfl) hr ?_
      refine xs_istore_n (L' := [(2, _), (0, _), (1, _)]) dX3_at_27 (by decide) rfl ?_
      refine xs_iconst (v := nI 0) dX3_at_28 rfl ?_
      refine xs_istore_n (L' := [(3, _), (2, _), (0, _), (1, _)]) dX3_at_29 (by decide) rfl ?_
      refine xs_sub (L' := [(3, _), (2, _), (1, _), (0, _)]) [0, 1, 3, 2] rfl ?_
      exact t_BM_at hr i.toNatClampNeg 0 _ (Nat.zero_add _) hX
    · exact absurd h2 c12
theorem k_BM_at {X : xz_X} {cA : ClassId} {own : String} {ad : Nat → Nat} {cc : ByteArray} {nL : Nat} {ret : Option FieldType} {R : Room} {s : zT} {pc ix : Nat} {L : List (Nat × Value)} {st : List Value} {i : Int32} (d : decode cc pc = .ok (.invokevirtual ix, 3)) (hw : xwV own ix yX3_at cX3_at 4 (some .int) 1) (hR : xroom R_BM_at 4 R) (hst : (st.map fun v => v.category).sum ≤ 8) (hr : rok s) (h1 : ¬ i < 0) (h2 : i < s.2 4 2) (kk : xs X cA own cc nL ret R (wd ad cA (s)) 0 0 (pc + 3) L (.int (mBM_at s i) :: st)) : xs X cA own cc nL ret R (wd ad cA s) 0 0 pc L (.int i :: .ref (ad 0) :: st) :=
  xs_call 0 (c_BM_at ad cA s i hr h1 h2) rfl rfl d hw hR rfl rfl rfl hst ⟨Nat.zero_le _, Nat.zero_le _⟩ kk
abbrev RT_BM_at : Room := { frames := 6, cells := 1, slots := 6, locals := 85 }
set_option maxHeartbeats 4000000 in
set_option maxRecDepth 100000 in
theorem cT_BM_at (ad : Nat → Nat) (cA : ClassId) (s : zT) (i : Int32) (h : i < 0 ∨ ¬ i < s.2 4 2) : xctT cA yX3_at cX3_at 4 (some .int) RT_BM_at [.ref (ad 0), .int i] (wd ad cA s) "java/util/NoSuchElementException" := by
  refine xctT_of (own := RX3) (by decide) rfl (Nat.le_of_ble_eq_true rfl) (fun X hX hEx => ?_)
  show xs X cA RX3 cX3_at 4 (some .int) RT_BM_at (wd ad cA s) 0 0 0 [(0, .ref (ad 0)), (1, .int i)] []
  refine xs_iload_n 1 dX3_at_0 rfl ?_
  refine xs_if_lt (t := 15) dX3_at_1 (by decide) (fun c1 => ?_) (fun c1 => ?_)
  · exact xs_throw hX hEx dX3_at_15 dX3_at_18 dX3_at_19 dX3_at_22 xcl_NoSuchElementException xin_NoSuchElementException xii_NoSuchElementException xat_NoSuchElementException (by decide) (by decide)
  · refine xs_iload_n 1 dX3_at_4 rfl ?_
    refine xs_aload_n 0 dX3_at_5 rfl ?_
    refine g_BM_line dX3_at_6 ?_
    refine k_Ln_count dX3_at_9 kw_BM_Ln_count (by decide) (Nat.le_of_ble_eq_true rfl) ?_
    refine xs_icmp_lt (t := 23) dX3_at_12 (by decide) (fun c12 => ?_) (fun c12 => ?_)
    · rcases h with h | h
      · exact absurd h c1
      · exact absurd c12 h
    · exact xs_throw hX hEx dX3_at_15 dX3_at_18 dX3_at_19 dX3_at_22 xcl_NoSuchElementException xin_NoSuchElementException xii_NoSuchElementException xat_NoSuchElementException (by decide) (by decide)
abbrev R_BM_after : Room := { frames := 4, cells := 0, slots := 0, locals := 85 }
set_option maxHeartbeats 4000000 in
set_option maxRecDepth 100000 in
theorem c_BM_after (ad : Nat → Nat) (cA : ClassId) (s : zT) (key : Int32) (hr : rok s) (hf : ¬ mBM_after s key = 0) : xct cA yX3_after cX3_after 4 (some .int) R_BM_after [.ref (ad 0), .int key] (wd ad cA s) (some (.int (s.2 0 (mBM_after s key)))) (wd ad cA (s)) := by
  refine xct_of (own := RX3) (by decide) rfl (Nat.le_of_ble_eq_true rfl) (fun X hX => ?_)
  show xs X cA RX3 cX3_after 4 (some .int) R_BM_after (wd ad cA s) 0 0 0 [(0, .ref (ad 0)), (1, .int key)] []
  refine xs_aload_n 0 dX3_after_0 rfl ?_
  refine g_BM_bins dX3_after_1 ?_
  refine xs_iload_n 1 dX3_after_4 rfl ?_
  refine k_Bi_find dX3_after_5 kw_BM_Bi_find (by decide) (Nat.le_of_ble_eq_true rfl) hr ?_
  refine xs_istore_n (L' := [(2, _), (0, _), (1, _)]) dX3_after_8 (by decide) rfl ?_
  refine xs_iload_n 0 dX3_after_9 rfl ?_
  refine xs_sif_ne (t := 17) dX3_after_10 (by decide) (fun c10 => ?_) (fun c10 => ?_)
  · refine xs_aload_n 1 dX3_after_17 rfl ?_
    refine xs_iload_n 0 dX3_after_18 rfl ?_
    refine k_BM_behind dX3_after_19 kw_BM_BM_behind (by decide) (Nat.le_of_ble_eq_true rfl) hr ?_
    refine xs_istore_n (L' := [(3, _), (2, _), (0, _), (1, _)]) dX3_after_22 (by decide) rfl ?_
    refine xs_iload_n 0 dX3_after_23 rfl ?_
    refine xs_sif_ne (t := 35) dX3_after_24 (by decide) (fun c24 => ?_) (fun c24 => ?_)
    · refine xs_aload_n 2 dX3_after_35 rfl ?_
      refine g_BM_bins dX3_after_36 ?_
      refine xs_iload_n 0 dX3_after_39 rfl ?_
      refine k_Bi_keyOf dX3_after_40 kw_BM_Bi_keyOf (by decide) (Nat.le_of_ble_eq_true rfl) ?_
      exact xs_iret hX rfl dX3_after_43 (by first | exact absurd rfl c24 | simp only [mBM_after, if_neg c10]) rfl
    · exact absurd (by first | exact (by rw [mBM_after, if_neg c10]; exact c24) | exact (by rw [mBM_after, if_pos c10])) hf
  · refine xs_iconst (v := zs 0) dX3_after_13 rfl ?_
    refine xs_goto (t := 22) dX3_after_14 (by decide) ?_
    refine xs_istore_n (L' := [(3, _), (2, _), (0, _), (1, _)]) dX3_after_22 (by decide) rfl ?_
    refine xs_iload_n 0 dX3_after_23 rfl ?_
    refine xs_sif_ne (t := 35) dX3_after_24 (by decide) (fun c24 => ?_) (fun c24 => ?_)
    · refine xs_aload_n 2 dX3_after_35 rfl ?_
      refine g_BM_bins dX3_after_36 ?_
      refine xs_iload_n 0 dX3_after_39 rfl ?_
      refine k_Bi_keyOf dX3_after_40 kw_BM_Bi_keyOf (by decide) (Nat.le_of_ble_eq_true rfl) ?_
      exact xs_iret hX rfl dX3_after_43 (by first | exact absurd rfl c24 | simp only [mBM_after, if_neg c10]) rfl
    · exact absurd (by first | exact (by rw [mBM_after, if_neg c10]; exact c24) | exact (by rw [mBM_after, if_pos c10])) hf
theorem k_BM_after {X : xz_X} {cA : ClassId} {own : String} {ad : Nat → Nat} {cc : ByteArray} {nL : Nat} {ret : Option FieldType} {R : Room} {s : zT} {pc ix : Nat} {L : List (Nat × Value)} {st : List Value} {key : Int32} (d : decode cc pc = .ok (.invokevirtual ix, 3)) (hw : xwV own ix yX3_after cX3_after 4 (some .int) 1) (hR : xroom R_BM_after 4 R) (hst : (st.map fun v => v.category).sum ≤ 8) (hr : rok s) (hf : ¬ mBM_after s key = 0) (kk : xs X cA own cc nL ret R (wd ad cA (s)) 0 0 (pc + 3) L (.int (s.2 0 (mBM_after s key)) :: st)) : xs X cA own cc nL ret R (wd ad cA s) 0 0 pc L (.int key :: .ref (ad 0) :: st) :=
  xs_call 0 (c_BM_after ad cA s key hr hf) rfl rfl d hw hR rfl rfl rfl hst ⟨Nat.zero_le _, Nat.zero_le _⟩ kk
abbrev RT_BM_after : Room := { frames := 6, cells := 1, slots := 6, locals := 85 }
set_option maxHeartbeats 4000000 in
set_option maxRecDepth 100000 in
theorem cT_BM_after (ad : Nat → Nat) (cA : ClassId) (s : zT) (key : Int32) (hr : rok s) (hf : mBM_after s key = 0) : xctT cA yX3_after cX3_after 4 (some .int) RT_BM_after [.ref (ad 0), .int key] (wd ad cA s) "java/util/NoSuchElementException" := by
  refine xctT_of (own := RX3) (by decide) rfl (Nat.le_of_ble_eq_true rfl) (fun X hX hEx => ?_)
  show xs X cA RX3 cX3_after 4 (some .int) RT_BM_after (wd ad cA s) 0 0 0 [(0, .ref (ad 0)), (1, .int key)] []
  refine xs_aload_n 0 dX3_after_0 rfl ?_
  refine g_BM_bins dX3_after_1 ?_
  refine xs_iload_n 1 dX3_after_4 rfl ?_
  refine k_Bi_find dX3_after_5 kw_BM_Bi_find (by decide) (Nat.le_of_ble_eq_true rfl) hr ?_
  refine xs_istore_n (L' := [(2, _), (0, _), (1, _)]) dX3_after_8 (by decide) rfl ?_
  refine xs_iload_n 0 dX3_after_9 rfl ?_
  refine xs_sif_ne (t := 17) dX3_after_10 (by decide) (fun c10 => ?_) (fun c10 => ?_)
  · refine xs_aload_n 1 dX3_after_17 rfl ?_
    refine xs_iload_n 0 dX3_after_18 rfl ?_
    refine k_BM_behind dX3_after_19 kw_BM_BM_behind (by decide) (Nat.le_of_ble_eq_true rfl) hr ?_
    refine xs_istore_n (L' := [(3, _), (2, _), (0, _), (1, _)]) dX3_after_22 (by decide) rfl ?_
    refine xs_iload_n 0 dX3_after_23 rfl ?_
    refine xs_sif_ne (t := 35) dX3_after_24 (by decide) (fun c24 => ?_) (fun c24 => ?_)
    · exact absurd (by first | exact absurd rfl c24 | (simp only [mBM_after, if_neg c10] at hf; exact hf)) c24
    · exact xs_throw hX hEx dX3_after_27 dX3_after_30 dX3_after_31 dX3_after_34 xcl_NoSuchElementException xin_NoSuchElementException xii_NoSuchElementException xat_NoSuchElementException (by decide) (by decide)
  · refine xs_iconst (v := zs 0) dX3_after_13 rfl ?_
    refine xs_goto (t := 22) dX3_after_14 (by decide) ?_
    refine xs_istore_n (L' := [(3, _), (2, _), (0, _), (1, _)]) dX3_after_22 (by decide) rfl ?_
    refine xs_iload_n 0 dX3_after_23 rfl ?_
    refine xs_sif_ne (t := 35) dX3_after_24 (by decide) (fun c24 => ?_) (fun c24 => ?_)
    · exact absurd (by first | exact absurd rfl c24 | (simp only [mBM_after, if_neg c10] at hf; exact hf)) c24
    · exact xs_throw hX hEx dX3_after_27 dX3_after_30 dX3_after_31 dX3_after_34 xcl_NoSuchElementException xin_NoSuchElementException xii_NoSuchElementException xat_NoSuchElementException (by decide) (by decide)
