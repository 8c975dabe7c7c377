abbrev R_Ln_count : Room := { frames := 0, cells := 0, slots := 0, locals := 0 }
set_option maxHeartbeats 4000000 in
set_option maxRecDepth 100000 in
theorem c_Ln_count (ad : Nat → Nat) (cA : ClassId) (s : zT) : xct cA yX1_count cX1_count 1 (some .int) R_Ln_count [.ref (ad 2)] (wd ad cA s) (some (.int (s.2 4 2))) (wd ad cA (s)) := by
  refine xct_of (own := RX1) (by decide) rfl (Nat.le_of_ble_eq_true rfl) (fun X hX => ?_)
  show xs X cA RX1 cX1_count 1 (some .int) R_Ln_count (wd ad cA s) 0 0 0 [(0, .ref (ad 2))] []
  refine xs_aload_n 0 dX1_count_0 rfl ?_
  refine g_Ln_count dX1_count_1 ?_
  exact xs_iret hX rfl dX1_count_4 rfl rfl
theorem k_Ln_count {X : xz_X} {cA : ClassId} {own : String} {ad : Nat → Nat} {cc : ByteArray} {nL : Nat} {ret : Option FieldType} {R : Room} {s : zT} {pc ix : Nat} {L : List (Nat × Value)} {st : List Value} (d : decode cc pc = .ok (.invokevirtual ix, 3)) (hw : xwV own ix yX1_count cX1_count 1 (some .int) 0) (hR : xroom R_Ln_count 1 R) (hst : (st.map fun v => v.category).sum ≤ 8) (kk : xs X cA own cc nL ret R (wd ad cA (s)) 0 0 (pc + 3) L (.int (s.2 4 2) :: st)) : xs X cA own cc nL ret R (wd ad cA s) 0 0 pc L (.ref (ad 2) :: st) :=
  xs_call 2 (c_Ln_count ad cA s) rfl rfl d hw hR rfl rfl rfl hst ⟨Nat.zero_le _, Nat.zero_le _⟩ kk
abbrev R_Ln_first : Room := { frames := 0, cells := 0, slots := 0, locals := 0 }
set_option maxHeartbeats 4000000 in
set_option maxRecDepth 100000 in
theorem c_Ln_first (ad : Nat → Nat) (cA : ClassId) (s : zT) : xct cA yX1_first cX1_first 1 (some .int) R_Ln_first [.ref (ad 2)] (wd ad cA s) (some (.int (zs (s.1 9 0)))) (wd ad cA (s)) := by
  refine xct_of (own := RX1) (by decide) rfl (Nat.le_of_ble_eq_true rfl) (fun X hX => ?_)
  show xs X cA RX1 cX1_first 1 (some .int) R_Ln_first (wd ad cA s) 0 0 0 [(0, .ref (ad 2))] []
  refine xs_aload_n 0 dX1_first_0 rfl ?_
  refine g_Ln_first dX1_first_1 ?_
  exact xs_iret hX rfl dX1_first_4 rfl rfl
theorem k_Ln_first {X : xz_X} {cA : ClassId} {own : String} {ad : Nat → Nat} {cc : ByteArray} {nL : Nat} {ret : Option FieldType} {R : Room} {s : zT} {pc ix : Nat} {L : List (Nat × Value)} {st : List Value} (d : decode cc pc = .ok (.invokevirtual ix, 3)) (hw : xwV own ix yX1_first cX1_first 1 (some .int) 0) (hR : xroom R_Ln_first 1 R) (hst : (st.map fun v => v.category).sum ≤ 8) (kk : xs X cA own cc nL ret R (wd ad cA (s)) 0 0 (pc + 3) L (.int (zs (s.1 9 0)) :: st)) : xs X cA own cc nL ret R (wd ad cA s) 0 0 pc L (.ref (ad 2) :: st) :=
  xs_call 2 (c_Ln_first ad cA s) rfl rfl d hw hR rfl rfl rfl hst ⟨Nat.zero_le _, Nat.zero_le _⟩ kk
abbrev R_Ln_behind : Room := { frames := 0, cells := 0, slots := 0, locals := 0 }
set_option maxHeartbeats 4000000 in
set_option maxRecDepth 100000 in
theorem c_Ln_behind (ad : Nat → Nat) (cA : ClassId) (s : zT) (a : zS) : xct cA yX1_behind cX1_behind 2 (some .int) R_Ln_behind [.ref (ad 2), .int (zs a)] (wd ad cA s) (some (.int (zs (s.1 1 a)))) (wd ad cA (s)) := by
  refine xct_of (own := RX1) (by decide) rfl (Nat.le_of_ble_eq_true rfl) (fun X hX => ?_)
  show xs X cA RX1 cX1_behind 2 (some .int) R_Ln_behind (wd ad cA s) 0 0 0 [(0, .ref (ad 2)), (1, .int (zs a))] []
  refine xs_aload_n 0 dX1_behind_0 rfl ?_
  refine g_Ln_behind dX1_behind_1 ?_
  refine xs_iload_n 1 dX1_behind_4 rfl ?_
  refine al_S1 dX1_behind_5 ?_
  exact xs_iret hX rfl dX1_behind_6 rfl rfl
theorem k_Ln_behind {X : xz_X} {cA : ClassId} {own : String} {ad : Nat → Nat} {cc : ByteArray} {nL : Nat} {ret : Option FieldType} {R : Room} {s : zT} {pc ix : Nat} {L : List (Nat × Value)} {st : List Value} {a : zS} (d : decode cc pc = .ok (.invokevirtual ix, 3)) (hw : xwV own ix yX1_behind cX1_behind 2 (some .int) 1) (hR : xroom R_Ln_behind 2 R) (hst : (st.map fun v => v.category).sum ≤ 8) (kk : xs X cA own cc nL ret R (wd ad cA (s)) 0 0 (pc + 3) L (.int (zs (s.1 1 a)) :: st)) : xs X cA own cc nL ret R (wd ad cA s) 0 0 pc L (.int (zs a) :: .ref (ad 2) :: st) :=
  xs_call 2 (c_Ln_behind ad cA s a) rfl rfl d hw hR rfl rfl rfl hst ⟨Nat.zero_le _, Nat.zero_le _⟩ kk
abbrev R_Ln_rankOf : Room := { frames := 0, cells := 0, slots := 0, locals := 0 }
set_option maxHeartbeats 4000000 in
set_option maxRecDepth 100000 in
theorem c_Ln_rankOf (ad : Nat → Nat) (cA : ClassId) (s : zT) (a : zS) : xct cA yX1_rankOf cX1_rankOf 2 (some .int) R_Ln_rankOf [.ref (ad 2), .int (zs a)] (wd ad cA s) (some (.int (s.2 2 a))) (wd ad cA (s)) := by
  refine xct_of (own := RX1) (by decide) rfl (Nat.le_of_ble_eq_true rfl) (fun X hX => ?_)
  show xs X cA RX1 cX1_rankOf 2 (some .int) R_Ln_rankOf (wd ad cA s) 0 0 0 [(0, .ref (ad 2)), (1, .int (zs a))] []
  refine xs_aload_n 0 dX1_rankOf_0 rfl ?_
  refine g_Ln_ranks dX1_rankOf_1 ?_
  refine xs_iload_n 1 dX1_rankOf_4 rfl ?_
  refine al_I2 dX1_rankOf_5 ?_
  exact xs_iret hX rfl dX1_rankOf_6 rfl rfl
theorem k_Ln_rankOf {X : xz_X} {cA : ClassId} {own : String} {ad : Nat → Nat} {cc : ByteArray} {nL : Nat} {ret : Option FieldType} {R : Room} {s : zT} {pc ix : Nat} {L : List (Nat × Value)} {st : List Value} {a : zS} (d : decode cc pc = .ok (.invokevirtual ix, 3)) (hw : xwV own ix yX1_rankOf cX1_rankOf 2 (some .int) 1) (hR : xroom R_Ln_rankOf 2 R) (hst : (st.map fun v => v.category).sum ≤ 8) (kk : xs X cA own cc nL ret R (wd ad cA (s)) 0 0 (pc + 3) L (.int (s.2 2 a) :: st)) : xs X cA own cc nL ret R (wd ad cA s) 0 0 pc L (.int (zs a) :: .ref (ad 2) :: st) :=
  xs_call 2 (c_Ln_rankOf ad cA s a) rfl rfl d hw hR rfl rfl rfl hst ⟨Nat.zero_le _, Nat.zero_le _⟩ kk
abbrev R_Ln_append : Room := { frames := 0, cells := 0, slots := 0, locals := 0 }
set_option maxHeartbeats 4000000 in
set_option maxRecDepth 100000 in
theorem c_Ln_append (ad : Nat → Nat) (cA : ClassId) (s : zT) (a : zS) : xct cA yX1_append cX1_append 2 none R_Ln_append [.ref (ad 2), .int (zs a)] (wd ad cA s) none (wd ad cA (mLn_append s a)) := by
  refine xct_of (own := RX1) (by decide) rfl (Nat.le_of_ble_eq_true rfl) (fun X hX => ?_)
  show xs X cA RX1 cX1_append 2 none R_Ln_append (wd ad cA s) 0 0 0 [(0, .ref (ad 2)), (1, .int (zs a))] []
  refine xs_aload_n 0 dX1_append_0 rfl ?_
  refine g_Ln_before dX1_append_1 ?_
  refine xs_iload_n 1 dX1_append_4 rfl ?_
  refine xs_aload_n 0 dX1_append_5 rfl ?_
  refine g_Ln_last dX1_append_6 ?_
  refine as_S0 dX1_append_9 ?_
  refine xs_aload_n 0 dX1_append_10 rfl ?_
  refine g_Ln_behind dX1_append_11 ?_
  refine xs_iload_n 1 dX1_append_14 rfl ?_
  refine xs_iconst (v := zs 0) dX1_append_15 rfl ?_
  refine as_S1 dX1_append_16 ?_
  refine xs_aload_n 0 dX1_append_17 rfl ?_
  refine g_Ln_last dX1_append_18 ?_
  refine xs_sif_ne (t := 32) dX1_append_21 (by decide) (fun c21 => ?_) (fun c21 => ?_)
  · refine xs_aload_n 0 dX1_append_32 rfl ?_
    refine g_Ln_behind dX1_append_33 ?_
    refine xs_aload_n 0 dX1_append_36 rfl ?_
    refine g_Ln_last dX1_append_37 ?_
    refine xs_iload_n 1 dX1_append_40 rfl ?_
    refine as_S1 dX1_append_41 ?_
    refine xs_aload_n 0 dX1_append_42 rfl ?_
    refine xs_iload_n 1 dX1_append_43 rfl ?_
    refine p_Ln_last dX1_append_44 ?_
    exact xs_vret hX rfl dX1_append_47 (by simp only [mLn_append, if_neg c21])
  · refine xs_aload_n 0 dX1_append_24 rfl ?_
    refine xs_iload_n 1 dX1_append_25 rfl ?_
    refine p_Ln_first dX1_append_26 ?_
    refine xs_goto (t := 42) dX1_append_29 (by decide) ?_
    refine xs_aload_n 0 dX1_append_42 rfl ?_
    refine xs_iload_n 1 dX1_append_43 rfl ?_
    refine p_Ln_last dX1_append_44 ?_
    exact xs_vret hX rfl dX1_append_47 (by simp only [mLn_append, if_pos c21])
theorem k_Ln_append {X : xz_X} {cA : ClassId} {own : String} {ad : Nat → Nat} {cc : ByteArray} {nL : Nat} {ret : Option FieldType} {R : Room} {s : zT} {pc ix : Nat} {L : List (Nat × Value)} {st : List Value} {a : zS} (d : decode cc pc = .ok (.invokevirtual ix, 3)) (hw : xwV own ix yX1_append cX1_append 2 none 1) (hR : xroom R_Ln_append 2 R) (hst : (st.map fun v => v.category).sum ≤ 8) (kk : xs X cA own cc nL ret R (wd ad cA (mLn_append s a)) 0 0 (pc + 3) L (st)) : xs X cA own cc nL ret R (wd ad cA s) 0 0 pc L (.int (zs a) :: .ref (ad 2) :: st) :=
  xs_call 2 (c_Ln_append ad cA s a) rfl rfl d hw hR rfl rfl rfl hst ⟨Nat.zero_le _, Nat.zero_le _⟩ kk
abbrev R_Ln_unlink : Room := { frames := 0, cells := 0, slots := 0, locals := 0 }
set_option maxHeartbeats 4000000 in
set_option maxRecDepth 100000 in
theorem c_Ln_unlink (ad : Nat → Nat) (cA : ClassId) (s : zT) (a : zS) : xct cA yX1_unlink cX1_unlink 4 none R_Ln_unlink [.ref (ad 2), .int (zs a)] (wd ad cA s) none (wd ad cA (mLn_unlink s a)) := by
  refine xct_of (own := RX1) (by decide) rfl (Nat.le_of_ble_eq_true rfl) (fun X hX => ?_)
  show xs X cA RX1 cX1_unlink 4 none R_Ln_unlink (wd ad cA s) 0 0 0 [(0, .ref (ad 2)), (1, .int (zs a))] []
  refine xs_aload_n 0 dX1_unlink_0 rfl ?_
  refine g_Ln_before dX1_unlink_1 ?_
  refine xs_iload_n 1 dX1_unlink_4 rfl ?_
  refine al_S0 dX1_unlink_5 ?_
  refine xs_istore_n (L' := [(2, _), (0, _), (1, _)]) dX1_unlink_6 (by decide) rfl ?_
  refine xs_aload_n 1 dX1_unlink_7 rfl ?_
  refine g_Ln_behind dX1_unlink_8 ?_
  refine xs_iload_n 2 dX1_unlink_11 rfl ?_
  refine al_S1 dX1_unlink_12 ?_
  refine xs_istore_n (L' := [(3, _), (2, _), (0, _), (1, _)]) dX1_unlink_13 (by decide) rfl ?_
  refine xs_iload_n 1 dX1_unlink_14 rfl ?_
  refine xs_sif_ne (t := 26) dX1_unlink_15 (by decide) (fun c15 => ?_) (fun c15 => ?_)
  · refine xs_aload_n 2 dX1_unlink_26 rfl ?_
    refine g_Ln_behind dX1_unlink_27 ?_
    refine xs_iload_n 1 dX1_unlink_30 rfl ?_
    refine xs_iload_n 0 dX1_unlink_31 rfl ?_
    refine as_S1 dX1_unlink_32 ?_
    refine xs_iload_n 0 dX1_unlink_33 rfl ?_
    refine xs_sif_ne (t := 45) dX1_unlink_34 (by decide) (fun c34 => ?_) (fun c34 => ?_)
    · refine xs_aload_n 2 dX1_unlink_45 rfl ?_
      refine g_Ln_before dX1_unlink_46 ?_
      refine xs_iload_n 0 dX1_unlink_49 rfl ?_
      refine xs_iload_n 1 dX1_unlink_50 rfl ?_
      refine as_S0 dX1_unlink_51 ?_
      exact xs_vret hX rfl dX1_unlink_52 (by simp only [mLn_unlink, if_neg c15, if_neg c34])
    · refine xs_aload_n 2 dX1_unlink_37 rfl ?_
      refine xs_iload_n 1 dX1_unlink_38 rfl ?_
      refine p_Ln_last dX1_unlink_39 ?_
      refine xs_goto (t := 52) dX1_unlink_42 (by decide) ?_
      exact xs_vret hX rfl dX1_unlink_52 (by simp only [mLn_unlink, if_neg c15, if_pos c34])
  · refine xs_aload_n 2 dX1_unlink_18 rfl ?_
    refine xs_iload_n 0 dX1_unlink_19 rfl ?_
    refine p_Ln_first dX1_unlink_20 ?_
    refine xs_goto (t := 33) dX1_unlink_23 (by decide) ?_
    refine xs_iload_n 0 dX1_unlink_33 rfl ?_
    refine xs_sif_ne (t := 45) dX1_unlink_34 (by decide) (fun c34 => ?_) (fun c34 => ?_)
    · refine xs_aload_n 2 dX1_unlink_45 rfl ?_
      refine g_Ln_before dX1_unlink_46 ?_
      refine xs_iload_n 0 dX1_unlink_49 rfl ?_
      refine xs_iload_n 1 dX1_unlink_50 rfl ?_
      refine as_S0 dX1_unlink_51 ?_
      exact xs_vret hX rfl dX1_unlink_52 (by simp only [mLn_unlink, if_pos c15, if_neg c34])
    · refine xs_aload_n 2 dX1_unlink_37 rfl ?_
      refine xs_iload_n 1 dX1_unlink_38 rfl ?_
      refine p_Ln_last dX1_unlink_39 ?_
      refine xs_goto (t := 52) dX1_unlink_42 (by decide) ?_
      exact xs_vret hX rfl dX1_unlink_52 (by simp only [mLn_unlink, if_pos c15, if_pos c34])
theorem k_Ln_unlink {X : xz_X} {cA : ClassId} {own : String} {ad : Nat → Nat} {cc : ByteArray} {nL : Nat} {ret : Option FieldType} {R : Room} {s : zT} {pc ix : Nat} {L : List (Nat × Value)} {st : List Value} {a : zS} (d : decode cc pc = .ok (.invokevirtual ix, 3)) (hw : xwV own ix yX1_unlink cX1_unlink 4 none 1) (hR : xroom R_Ln_unlink 4 R) (hst : (st.map fun v => v.category).sum ≤ 8) (kk : xs X cA own cc nL ret R (wd ad cA (mLn_unlink s a)) 0 0 (pc + 3) L (st)) : xs X cA own cc nL ret R (wd ad cA s) 0 0 pc L (.int (zs a) :: .ref (ad 2) :: st) :=
  xs_call 2 (c_Ln_unlink ad cA s a) rfl rfl d hw hR rfl rfl rfl hst ⟨Nat.zero_le _, Nat.zero_le _⟩ kk
abbrev R_Ln_join : Room := { frames := 1, cells := 0, slots := 0, locals := 21 }
set_option maxRecDepth 100000 in
theorem kw_Ln_Ln_append : xwV RX1 34 yX1_append cX1_append 2 none 1 := ⟨⟨xt_of (List.mem_of_getElem? (i := 419) rfl) rfl, xt_of (by decide +kernel) rfl, xt_of (by decide +kernel) rfl, by decide +kernel⟩, xt_of (by decide +kernel) rfl, xt_of (by decide +kernel) rfl⟩
set_option maxHeartbeats 4000000 in
set_option maxRecDepth 100000 in
theorem c_Ln_join (ad : Nat → Nat) (cA : ClassId) (s : zT) : xct cA yX1_join cX1_join 2 (some .int) R_Ln_join [.ref (ad 2)] (wd ad cA s) (some (.int (zs ((mLn_join s).1)))) (wd ad cA ((mLn_join s).2)) := by
  refine xct_of (own := RX1) (by decide) rfl (Nat.le_of_ble_eq_true rfl) (fun X hX => ?_)
  show xs X cA RX1 cX1_join 2 (some .int) R_Ln_join (wd ad cA s) 0 0 0 [(0, .ref (ad 2))] []
  refine xs_aload_n 0 dX1_join_0 rfl ?_
  refine g_Ln_free dX1_join_1 ?_
  refine xs_istore_n (L' := [(1, _), (0, _)]) dX1_join_4 (by decide) rfl ?_
  refine xs_aload_n 1 dX1_join_5 rfl ?_
  refine xs_aload_n 1 dX1_join_6 rfl ?_
  refine g_Ln_behind dX1_join_7 ?_
  refine xs_iload_n 0 dX1_join_10 rfl ?_
  refine al_S1 dX1_join_11 ?_
  refine p_Ln_free dX1_join_12 ?_
  refine xs_aload_n 1 dX1_join_15 rfl ?_
  refine xs_iload_n 0 dX1_join_16 rfl ?_
  refine k_Ln_append dX1_join_17 kw_Ln_Ln_append (by decide) (Nat.le_of_ble_eq_true rfl) ?_
  refine xs_aload_n 1 dX1_join_20 rfl ?_
  refine xs_dup dX1_join_21 rfl ?_
  refine g_Ln_count dX1_join_22 ?_
  refine xs_iconst (v := 1) dX1_join_25 (by decide) ?_
  refine xs_iadd dX1_join_26 ?_
  refine p_Ln_count dX1_join_27 ?_
  refine xs_iload_n 0 dX1_join_30 rfl ?_
  exact xs_iret hX rfl dX1_join_31 rfl rfl
theorem k_Ln_join {X : xz_X} {cA : ClassId} {own : String} {ad : Nat → Nat} {cc : ByteArray} {nL : Nat} {ret : Option FieldType} {R : Room} {s : zT} {pc ix : Nat} {L : List (Nat × Value)} {st : List Value} (d : decode cc pc = .ok (.invokevirtual ix, 3)) (hw : xwV own ix yX1_join cX1_join 2 (some .int) 0) (hR : xroom R_Ln_join 2 R) (hst : (st.map fun v => v.category).sum ≤ 8) (kk : xs X cA own cc nL ret R (wd ad cA ((mLn_join s).2)) 0 0 (pc + 3) L (.int (zs ((mLn_join s).1)) :: st)) : xs X cA own cc nL ret R (wd ad cA s) 0 0 pc L (.ref (ad 2) :: st) :=
  xs_call 2 (c_Ln_join ad cA s) rfl rfl d hw hR rfl rfl rfl hst ⟨Nat.zero_le _, Nat.zero_le _⟩ kk
abbrev R_Ln_leave : Room := { frames := 1, cells := 0, slots := 0, locals := 23 }
set_option maxRecDepth 100000 in
theorem kw_Ln_Ln_unlink : xwV RX1 38 yX1_unlink cX1_unlink 4 none 1 := ⟨⟨xt_of (List.mem_of_getElem? (i := 492) rfl) rfl, xt_of (by decide +kernel) rfl, xt_of (by decide +kernel) rfl, by decide +kernel⟩, xt_of (by decide +kernel) rfl, xt_of (by decide +kernel) rfl⟩
set_option maxHeartbeats 4000000 in
set_option maxRecDepth 100000 in
theorem c_Ln_leave (ad : Nat → Nat) (cA : ClassId) (s : zT) (a : zS) : xct cA yX1_leave cX1_leave 2 none R_Ln_leave [.ref (ad 2), .int (zs a)] (wd ad cA s) none (wd ad cA (mLn_leave s a)) := by
  refine xct_of (own := RX1) (by decide) rfl (Nat.le_of_ble_eq_true rfl) (fun X hX => ?_)
  show xs X cA RX1 cX1_leave 2 none R_Ln_leave (wd ad cA s) 0 0 0 [(0, .ref (ad 2)), (1, .int (zs a))] []
  refine xs_aload_n 0 dX1_leave_0 rfl ?_
  refine xs_iload_n 1 dX1_leave_1 rfl ?_
  refine k_Ln_unlink dX1_leave_2 kw_Ln_Ln_unlink (by decide) (Nat.le_of_ble_eq_true rfl) ?_
  refine xs_aload_n 0 dX1_leave_5 rfl ?_
  refine g_Ln_behind dX1_leave_6 ?_
  refine xs_iload_n 1 dX1_leave_9 rfl ?_
  refine xs_aload_n 0 dX1_leave_10 rfl ?_
  refine g_Ln_free dX1_leave_11 ?_
  refine as_S1 dX1_leave_14 ?_
  refine xs_aload_n 0 dX1_leave_15 rfl ?_
  refine xs_iload_n 1 dX1_leave_16 rfl ?_
  refine p_Ln_free dX1_leave_17 ?_
  refine xs_aload_n 0 dX1_leave_20 rfl ?_
  refine xs_dup dX1_leave_21 rfl ?_
  refine g_Ln_count dX1_leave_22 ?_
  refine xs_iconst (v := 1) dX1_leave_25 (by decide) ?_
  refine xs_isub dX1_leave_26 ?_
  refine p_Ln_count dX1_leave_27 ?_
  exact xs_vret hX rfl dX1_leave_30 rfl
theorem k_Ln_leave {X : xz_X} {cA : ClassId} {own : String} {ad : Nat → Nat} {cc : ByteArray} {nL : Nat} {ret : Option FieldType} {R : Room} {s : zT} {pc ix : Nat} {L : List (Nat × Value)} {st : List Value} {a : zS} (d : decode cc pc = .ok (.invokevirtual ix, 3)) (hw : xwV own ix yX1_leave cX1_leave 2 none 1) (hR : xroom R_Ln_leave 2 R) (hst : (st.map fun v => v.category).sum ≤ 8) (kk : xs X cA own cc nL ret R (wd ad cA (mLn_leave s a)) 0 0 (pc + 3) L (st)) : xs X cA own cc nL ret R (wd ad cA s) 0 0 pc L (.int (zs a) :: .ref (ad 2) :: st) :=
  xs_call 2 (c_Ln_leave ad cA s a) rfl rfl d hw hR rfl rfl rfl hst ⟨Nat.zero_le _, Nat.zero_le _⟩ kk
abbrev R_Ln_toEnd : Room := { frames := 1, cells := 0, slots := 0, locals := 23 }
set_option maxHeartbeats 4000000 in
set_option maxRecDepth 100000 in
theorem c_Ln_toEnd (ad : Nat → Nat) (cA : ClassId) (s : zT) (a : zS) : xct cA yX1_moveToEnd cX1_moveToEnd 2 none R_Ln_toEnd [.ref (ad 2), .int (zs a)] (wd ad cA s) none (wd ad cA (mLn_toEnd s a)) := by
  refine xct_of (own := RX1) (by decide) rfl (Nat.le_of_ble_eq_true rfl) (fun X hX => ?_)
  show xs X cA RX1 cX1_moveToEnd 2 none R_Ln_toEnd (wd ad cA s) 0 0 0 [(0, .ref (ad 2)), (1, .int (zs a))] []
  refine xs_aload_n 0 dX1_moveToEnd_0 rfl ?_
  refine xs_iload_n 1 dX1_moveToEnd_1 rfl ?_
  refine k_Ln_unlink dX1_moveToEnd_2 kw_Ln_Ln_unlink (by decide) (Nat.le_of_ble_eq_true rfl) ?_
  refine xs_aload_n 0 dX1_moveToEnd_5 rfl ?_
  refine xs_iload_n 1 dX1_moveToEnd_6 rfl ?_
  refine k_Ln_append dX1_moveToEnd_7 kw_Ln_Ln_append (by decide) (Nat.le_of_ble_eq_true rfl) ?_
  exact xs_vret hX rfl dX1_moveToEnd_10 rfl
theorem k_Ln_toEnd {X : xz_X} {cA : ClassId} {own : String} {ad : Nat → Nat} {cc : ByteArray} {nL : Nat} {ret : Option FieldType} {R : Room} {s : zT} {pc ix : Nat} {L : List (Nat × Value)} {st : List Value} {a : zS} (d : decode cc pc = .ok (.invokevirtual ix, 3)) (hw : xwV own ix yX1_moveToEnd cX1_moveToEnd 2 none 1) (hR : xroom R_Ln_toEnd 2 R) (hst : (st.map fun v => v.category).sum ≤ 8) (kk : xs X cA own cc nL ret R (wd ad cA (mLn_toEnd s a)) 0 0 (pc + 3) L (st)) : xs X cA own cc nL ret R (wd ad cA s) 0 0 pc L (.int (zs a) :: .ref (ad 2) :: st) :=
  xs_call 2 (c_Ln_toEnd ad cA s a) rfl rfl d hw hR rfl rfl rfl hst ⟨Nat.zero_le _, Nat.zero_le _⟩ kk
abbrev R_Ln_drain : Room := { frames := 0, cells := 0, slots := 0, locals := 0 }
set_option maxHeartbeats 4000000 in
set_option maxRecDepth 100000 in
theorem c_Ln_drain (ad : Nat → Nat) (cA : ClassId) (s : zT) : xct cA yX1_drain cX1_drain 1 none R_Ln_drain [.ref (ad 2)] (wd ad cA s) none (wd ad cA (mLn_drain s)) := by
  refine xct_of (own := RX1) (by decide) rfl (Nat.le_of_ble_eq_true rfl) (fun X hX => ?_)
  show xs X cA RX1 cX1_drain 1 none R_Ln_drain (wd ad cA s) 0 0 0 [(0, .ref (ad 2))] []
  refine xs_aload_n 0 dX1_drain_0 rfl ?_
  refine g_Ln_last dX1_drain_1 ?_
  refine xs_sif_eq (t := 28) dX1_drain_4 (by decide) (fun c4 => ?_) (fun c4 => ?_)
  · refine xs_aload_n 0 dX1_drain_28 rfl ?_
    refine xs_iconst (v := zs 0) dX1_drain_29 rfl ?_
    refine p_Ln_first dX1_drain_30 ?_
    refine xs_aload_n 0 dX1_drain_33 rfl ?_
    refine xs_iconst (v := zs 0) dX1_drain_34 rfl ?_
    refine p_Ln_last dX1_drain_35 ?_
    refine xs_aload_n 0 dX1_drain_38 rfl ?_
    refine xs_iconst (v := 0) dX1_drain_39 (by decide) ?_
    refine p_Ln_count dX1_drain_40 ?_
    exact xs_vret hX rfl dX1_drain_43 (by simp only [mLn_drain, if_pos c4])
  · refine xs_aload_n 0 dX1_drain_7 rfl ?_
    refine g_Ln_behind dX1_drain_8 ?_
    refine xs_aload_n 0 dX1_drain_11 rfl ?_
    refine g_Ln_last dX1_drain_12 ?_
    refine xs_aload_n 0 dX1_drain_15 rfl ?_
    refine g_Ln_free dX1_drain_16 ?_
    refine as_S1 dX1_drain_19 ?_
    refine xs_aload_n 0 dX1_drain_20 rfl ?_
    refine xs_aload_n 0 dX1_drain_21 rfl ?_
    refine g_Ln_first dX1_drain_22 ?_
    refine p_Ln_free dX1_drain_25 ?_
    refine xs_aload_n 0 dX1_drain_28 rfl ?_
    refine xs_iconst (v := zs 0) dX1_drain_29 rfl ?_
    refine p_Ln_first dX1_drain_30 ?_
    refine xs_aload_n 0 dX1_drain_33 rfl ?_
    refine xs_iconst (v := zs 0) dX1_drain_34 rfl ?_
    refine p_Ln_last dX1_drain_35 ?_
    refine xs_aload_n 0 dX1_drain_38 rfl ?_
    refine xs_iconst (v := 0) dX1_drain_39 (by decide) ?_
    refine p_Ln_count dX1_drain_40 ?_
    exact xs_vret hX rfl dX1_drain_43 (by simp only [mLn_drain, if_neg c4])
theorem k_Ln_drain {X : xz_X} {cA : ClassId} {own : String} {ad : Nat → Nat} {cc : ByteArray} {nL : Nat} {ret : Option FieldType} {R : Room} {s : zT} {pc ix : Nat} {L : List (Nat × Value)} {st : List Value} (d : decode cc pc = .ok (.invokevirtual ix, 3)) (hw : xwV own ix yX1_drain cX1_drain 1 none 0) (hR : xroom R_Ln_drain 1 R) (hst : (st.map fun v => v.category).sum ≤ 8) (kk : xs X cA own cc nL ret R (wd ad cA (mLn_drain s)) 0 0 (pc + 3) L (st)) : xs X cA own cc nL ret R (wd ad cA s) 0 0 pc L (.ref (ad 2) :: st) :=
  xs_call 2 (c_Ln_drain ad cA s) rfl rfl d hw hR rfl rfl rfl hst ⟨Nat.zero_le _, Nat.zero_le _⟩ kk
abbrev R_Ln_rank : Room := { frames := 0, cells := 0, slots := 0, locals := 0 }
set_option maxHeartbeats 4000000 in
set_option maxRecDepth 100000 in
theorem t_Ln_rank {X : xz_X} {ad : Nat → Nat} {cA : ClassId} : ∀ (n i : Nat) (a : zS) (s : zT), i + n = (s.2 4 2).toNatClampNeg → xfin X cA 0 0 none (wd ad cA (mLn_rankL n i a s)) → xs X cA RX1 cX1_rank 3 none R_Ln_rank (wd ad cA s) 0 0 7 [(2, .int (nI i)), (1, .int (zs a)), (0, .ref (ad 2))] [] := by
  intro n
  induction n with
  | zero =>
    intro i a s hi hX
    refine xs_iload_n 0 dX1_rank_7 rfl ?_
    refine xs_aload_n 2 dX1_rank_8 rfl ?_
    refine g_Ln_count dX1_rank_9 ?_
    refine xs_icmp_ge (t := 35) dX1_rank_12 (by decide) (fun c12 => ?_) (fun c12 => ?_)
    · exact xs_vret hX rfl dX1_rank_35 rfl
    · exact absurd (cnt_le (by omega) (by have := cnt_lt31 (s.2 4 2); omega)) c12
  | succ n ih =>
    intro i a s hi hX
    refine xs_iload_n 0 dX1_rank_7 rfl ?_
    refine xs_aload_n 2 dX1_rank_8 rfl ?_
    refine g_Ln_count dX1_rank_9 ?_
    refine xs_icmp_ge (t := 35) dX1_rank_12 (by decide) (fun c12 => ?_) (fun c12 => ?_)
    · exact absurd c12 (cnt_nle (by omega))
    · refine xs_aload_n 2 dX1_rank_15 rfl ?_
      refine g_Ln_ranks dX1_rank_16 ?_
      refine xs_iload_n 1 dX1_rank_19 rfl ?_
      refine xs_iload_n 0 dX1_rank_20 rfl ?_
      refine as_I2 dX1_rank_21 ?_
      refine xs_aload_n 2 dX1_rank_22 rfl ?_
      refine g_Ln_behind dX1_rank_23 ?_
      refine xs_iload_n 1 dX1_rank_26 rfl ?_
      refine al_S1 dX1_rank_27 ?_
      refine xs_istore_n (L' := [(1, _), (2, _), (0, _)]) dX1_rank_28 (by decide) rfl ?_
      refine xs_iinc_n (L' := [(2, _), (1, _), (0, _)]) 1 dX1_rank_29 rfl (by decide) rfl ?_
      refine xs_goto (t := 7) dX1_rank_32 (by decide) ?_
      refine xs_sub (L' := [(2, _), (1, _), (0, _)]) [0, 1, 2] rfl ?_
      exact ih _ _ _ (by show i + 1 + n = (s.2 4 2).toNatClampNeg; omega) hX
set_option maxHeartbeats 4000000 in
set_option maxRecDepth 100000 in
theorem c_Ln_rank (ad : Nat → Nat) (cA : ClassId) (s : zT) : xct cA yX1_rank cX1_rank 3 none R_Ln_rank [.ref (ad 2)] (wd ad cA s) none (wd ad cA (mLn_rank s)) := by
  refine xct_of (own := RX1) (by decide) rfl (Nat.le_of_ble_eq_true rfl) (fun X hX => ?_)
  show xs X cA RX1 cX1_rank 3 none R_Ln_rank (wd ad cA s) 0 0 0 [(0, .ref (ad 2))] []
  refine xs_aload_n 0 dX1_rank_0 rfl ?_
  refine g_Ln_first dX1_rank_1 ?_
  refine xs_istore_n (L' := [(1, _), (0, _)]) dX1_rank_4 (by decide) rfl ?_
  refine xs_iconst (v := nI 0) dX1_rank_5 rfl ?_
  refine xs_istore_n (L' := [(2, _), (1, _), (0, _)]) dX1_rank_6 (by decide) rfl ?_
  refine xs_sub (L' := [(2, _), (1, _), (0, _)]) [0, 1, 2] rfl ?_
  exact t_Ln_rank (s.2 4 2).toNatClampNeg 0 _ _ (Nat.zero_add _) hX
theorem k_Ln_rank {X : xz_X} {cA : ClassId} {own : String} {ad : Nat → Nat} {cc : ByteArray} {nL : Nat} {ret : Option FieldType} {R : Room} {s : zT} {pc ix : Nat} {L : List (Nat × Value)} {st : List Value} (d : decode cc pc = .ok (.invokevirtual ix, 3)) (hw : xwV own ix yX1_rank cX1_rank 3 none 0) (hR : xroom R_Ln_rank 3 R) (hst : (st.map fun v => v.category).sum ≤ 8) (kk : xs X cA own cc nL ret R (wd ad cA (mLn_rank s)) 0 0 (pc + 3) L (st)) : xs X cA own cc nL ret R (wd ad cA s) 0 0 pc L (.ref (ad 2) :: st) :=
  xs_call 2 (c_Ln_rank ad cA s) rfl rfl d hw hR rfl rfl rfl hst ⟨Nat.zero_le _, Nat.zero_le _⟩ kk
abbrev R_Ln_free : Room := { frames := 0, cells := 0, slots := 0, locals := 0 }
set_option maxHeartbeats 4000000 in
set_option maxRecDepth 100000 in
theorem t_Ln_free {X : xz_X} {ad : Nat → Nat} {cA : ClassId} {s : zT} : ∀ (n i : Nat) (a : zS), i + n = 2002 → xfin X cA 0 0 (some (.int (mLn_freeL s n i a))) (wd ad cA (s)) → xs X cA RX1 cX1_freeSlots 3 (some .int) R_Ln_free (wd ad cA s) 0 0 7 [(1, .int (nI i)), (2, .int (zs a)), (0, .ref (ad 2))] [] := by
  intro n
  induction n with
  | zero =>
    intro i a hi hX
    refine xs_iload_n 1 dX1_freeSlots_7 rfl ?_
    refine xs_sif_eq (t := 31) dX1_freeSlots_8 (by decide) (fun c8 => ?_) (fun c8 => ?_)
    · refine xs_iload_n 0 dX1_freeSlots_31 rfl ?_
      exact xs_iret hX rfl dX1_freeSlots_32 rfl rfl
    · refine xs_iload_n 0 dX1_freeSlots_11 rfl ?_
      refine xs_sipush (v := 2002) dX1_freeSlots_12 (by decide) ?_
      refine xs_icmp_ge (t := 31) dX1_freeSlots_15 (by decide) (fun c15 => ?_) (fun c15 => ?_)
      · refine xs_iload_n 0 dX1_freeSlots_31 rfl ?_
        exact xs_iret hX rfl dX1_freeSlots_32 rfl rfl
      · exact absurd (show (2002 : Int32) ≤ nI i from kn_le (m := 2002) (by omega) (by omega)) c15
  | succ n ih =>
    intro i a hi hX
    refine xs_iload_n 1 dX1_freeSlots_7 rfl ?_
    refine xs_sif_eq (t := 31) dX1_freeSlots_8 (by decide) (fun c8 => ?_) (fun c8 => ?_)
    · refine xs_iload_n 0 dX1_freeSlots_31 rfl ?_
      exact xs_iret hX rfl dX1_freeSlots_32 (by simp only [mLn_freeL, if_pos c8]) rfl
    · refine xs_iload_n 0 dX1_freeSlots_11 rfl ?_
      refine xs_sipush (v := 2002) dX1_freeSlots_12 (by decide) ?_
      refine xs_icmp_ge (t := 31) dX1_freeSlots_15 (by decide) (fun c15 => ?_) (fun c15 => ?_)
      · exact absurd c15 (show ¬ (2002 : Int32) ≤ nI i from kn_nle (m := 2002) (by omega) (by decide))
      · refine xs_aload_n 2 dX1_freeSlots_18 rfl ?_
        refine g_Ln_behind dX1_freeSlots_19 ?_
        refine xs_iload_n 1 dX1_freeSlots_22 rfl ?_
        refine al_S1 dX1_freeSlots_23 ?_
        refine xs_istore_n (L' := [(2, _), (1, _), (0, _)]) dX1_freeSlots_24 (by decide) rfl ?_
        refine xs_iinc_n (L' := [(1, _), (2, _), (0, _)]) 1 dX1_freeSlots_25 rfl (by decide) rfl ?_
        refine xs_goto (t := 7) dX1_freeSlots_28 (by decide) ?_
        refine xs_sub (L' := [(1, _), (2, _), (0, _)]) [0, 1, 2] rfl ?_
        exact ih _ _ (by omega) (by simp only [mLn_freeL, if_neg c8, if_neg c15] at hX; exact hX)
set_option maxHeartbeats 4000000 in
set_option maxRecDepth 100000 in
theorem c_Ln_free (ad : Nat → Nat) (cA : ClassId) (s : zT) : xct cA yX1_freeSlots cX1_freeSlots 3 (some .int) R_Ln_free [.ref (ad 2)] (wd ad cA s) (some (.int (mLn_free s))) (wd ad cA (s)) := by
  refine xct_of (own := RX1) (by decide) rfl (Nat.le_of_ble_eq_true rfl) (fun X hX => ?_)
  show xs X cA RX1 cX1_freeSlots 3 (some .int) R_Ln_free (wd ad cA s) 0 0 0 [(0, .ref (ad 2))] []
  refine xs_iconst (v := nI 0) dX1_freeSlots_0 rfl ?_
  refine xs_istore_n (L' := [(1, _), (0, _)]) dX1_freeSlots_1 (by decide) rfl ?_
  refine xs_aload_n 1 dX1_freeSlots_2 rfl ?_
  refine g_Ln_free dX1_freeSlots_3 ?_
  refine xs_istore_n (L' := [(2, _), (1, _), (0, _)]) dX1_freeSlots_6 (by decide) rfl ?_
  refine xs_sub (L' := [(1, _), (2, _), (0, _)]) [1, 0, 2] rfl ?_
  exact t_Ln_free 2002 0 _ rfl hX
theorem k_Ln_free {X : xz_X} {cA : ClassId} {own : String} {ad : Nat → Nat} {cc : ByteArray} {nL : Nat} {ret : Option FieldType} {R : Room} {s : zT} {pc ix : Nat} {L : List (Nat × Value)} {st : List Value} (d : decode cc pc = .ok (.invokevirtual ix, 3)) (hw : xwV own ix yX1_freeSlots cX1_freeSlots 3 (some .int) 0) (hR : xroom R_Ln_free 3 R) (hst : (st.map fun v => v.category).sum ≤ 8) (kk : xs X cA own cc nL ret R (wd ad cA (s)) 0 0 (pc + 3) L (.int (mLn_free s) :: st)) : xs X cA own cc nL ret R (wd ad cA s) 0 0 pc L (.ref (ad 2) :: st) :=
  xs_call 2 (c_Ln_free ad cA s) rfl rfl d hw hR rfl rfl rfl hst ⟨Nat.zero_le _, Nat.zero_le _⟩ kk
abbrev R_Ln_faults : Room := { frames := 1, cells := 0, slots := 0, locals := 22 }
set_option maxRecDepth 100000 in
theorem kw_Ln_Ln_free : xwV RX1 41 yX1_freeSlots cX1_freeSlots 3 (some .int) 0 := ⟨⟨xt_of (List.mem_of_getElem? (i := 244) rfl) rfl, xt_of (by decide +kernel) rfl, xt_of (by decide +kernel) rfl, by decide +kernel⟩, xt_of (by decide +kernel) rfl, xt_of (by decide +kernel) rfl⟩
set_option maxHeartbeats 4000000 in
set_option maxRecDepth 100000 in
theorem t_Ln_fa3 {X : xz_X} {ad : Nat → Nat} {cA : ClassId} {s : zT} : ∀ (x : Int32) (i : Nat), xfin X cA 0 0 (some (.int (mLn_fa3 s x i))) (wd ad cA (s)) → xs X cA RX1 cX1_faults 5 (some .int) R_Ln_faults (wd ad cA s) 0 0 78 [(1, .int x), (2, .int (nI i)), (0, .ref (ad 2))] [] := by
  intro x i hX
  refine xs_iload_n 1 dX1_faults_78 rfl ?_
  refine xs_aload_n 2 dX1_faults_79 rfl ?_
  refine k_Ln_free dX1_faults_80 kw_Ln_Ln_free (by decide) (Nat.le_of_ble_eq_true rfl) ?_
  refine xs_iadd dX1_faults_83 ?_
  refine xs_sipush (v := 2001) dX1_faults_84 (by decide) ?_
  refine xs_icmp_eq (t := 93) dX1_faults_87 (by decide) (fun c87 => ?_) (fun c87 => ?_)
  · refine xs_iload_n 0 dX1_faults_93 rfl ?_
    exact xs_iret hX rfl dX1_faults_94 (by simp only [mLn_fa3, if_pos c87]) rfl
  · refine xs_iinc_1 (L' := [(1, _), (2, _), (0, _)]) 0 dX1_faults_90 rfl (by decide) rfl ?_
    refine xs_iload_n 0 dX1_faults_93 rfl ?_
    exact xs_iret hX rfl dX1_faults_94 (by simp only [mLn_fa3, if_neg c87]) rfl
set_option maxHeartbeats 4000000 in
set_option maxRecDepth 100000 in
theorem t_Ln_fa2 {X : xz_X} {ad : Nat → Nat} {cA : ClassId} {s : zT} : ∀ (x : Int32) (i : Nat), xfin X cA 0 0 (some (.int (mLn_fa2 s x i))) (wd ad cA (s)) → xs X cA RX1 cX1_faults 5 (some .int) R_Ln_faults (wd ad cA s) 0 0 67 [(1, .int x), (2, .int (nI i)), (0, .ref (ad 2))] [] := by
  intro x i hX
  refine xs_iload_n 1 dX1_faults_67 rfl ?_
  refine xs_aload_n 2 dX1_faults_68 rfl ?_
  refine g_Ln_count dX1_faults_69 ?_
  refine xs_icmp_eq (t := 78) dX1_faults_72 (by decide) (fun c72 => ?_) (fun c72 => ?_)
  · refine xs_sub (L' := [(1, _), (2, _), (0, _)]) [0, 1, 2] rfl ?_
    exact t_Ln_fa3 _ _ (by simp only [mLn_fa2, if_pos c72] at hX; exact hX)
  · refine xs_iinc_1 (L' := [(1, _), (2, _), (0, _)]) 0 dX1_faults_75 rfl (by decide) rfl ?_
    refine xs_sub (L' := [(1, _), (2, _), (0, _)]) [0, 1, 2] rfl ?_
    exact t_Ln_fa3 _ _ (by simp only [mLn_fa2, if_neg c72] at hX; exact hX)
set_option maxHeartbeats 4000000 in
set_option maxRecDepth 100000 in
theorem t_Ln_fa1 {X : xz_X} {ad : Nat → Nat} {cA : ClassId} {s : zT} : ∀ (x : Int32) (i : Nat) (f : zS), xfin X cA 0 0 (some (.int (mLn_fa1 s x i f))) (wd ad cA (s)) → xs X cA RX1 cX1_faults 5 (some .int) R_Ln_faults (wd ad cA s) 0 0 56 [(1, .int x), (2, .int (nI i)), (3, .int (zs f)), (0, .ref (ad 2))] [] := by
  intro x i f hX
  refine xs_iload_n 2 dX1_faults_56 rfl ?_
  refine xs_aload_n 3 dX1_faults_57 rfl ?_
  refine g_Ln_last dX1_faults_58 ?_
  refine xs_scmp_eq (t := 67) dX1_faults_61 (by decide) (fun c61 => ?_) (fun c61 => ?_)
  · refine xs_sub (L' := [(1, _), (2, _), (0, _)]) [0, 1, 3] rfl ?_
    exact t_Ln_fa2 _ _ (by simp only [mLn_fa1, if_pos c61] at hX; exact hX)
  · refine xs_iinc_1 (L' := [(1, _), (2, _), (3, _), (0, _)]) 0 dX1_faults_64 rfl (by decide) rfl ?_
    refine xs_sub (L' := [(1, _), (2, _), (0, _)]) [0, 1, 3] rfl ?_
    exact t_Ln_fa2 _ _ (by simp only [mLn_fa1, if_neg c61] at hX; exact hX)
set_option maxHeartbeats 4000000 in
set_option maxRecDepth 100000 in
theorem t_Ln_faL {X : xz_X} {ad : Nat → Nat} {cA : ClassId} {s : zT} : ∀ (n i : Nat) (x : Int32) (f a : zS), i + n = 2002 → xfin X cA 0 0 (some (.int (mLn_faL s n i x f a))) (wd ad cA (s)) → xs X cA RX1 cX1_faults 5 (some .int) R_Ln_faults (wd ad cA s) 0 0 12 [(4, .int (zs a)), (3, .int (zs f)), (2, .int (nI i)), (1, .int x), (0, .ref (ad 2))] [] := by
  intro n
  induction n with
  | zero =>
    intro i x f a hi hX
    refine xs_iload 0 dX1_faults_12 rfl ?_
    refine xs_sif_eq (t := 56) dX1_faults_14 (by decide) (fun c14 => ?_) (fun c14 => ?_)
    · refine xs_sub (L' := [(1, _), (2, _), (3, _), (0, _)]) [3, 2, 1, 4] rfl ?_
      exact t_Ln_fa1 _ _ _ hX
    · refine xs_iload_n 2 dX1_faults_17 rfl ?_
      refine xs_sipush (v := 2002) dX1_faults_18 (by decide) ?_
      refine xs_icmp_ge (t := 56) dX1_faults_21 (by decide) (fun c21 => ?_) (fun c21 => ?_)
      · refine xs_sub (L' := [(1, _), (2, _), (3, _), (0, _)]) [3, 2, 1, 4] rfl ?_
        exact t_Ln_fa1 _ _ _ hX
      · exact absurd (show (2002 : Int32) ≤ nI i from kn_le (m := 2002) (by omega) (by omega)) c21
  | succ n ih =>
    intro i x f a hi hX
    refine xs_iload 0 dX1_faults_12 rfl ?_
    refine xs_sif_eq (t := 56) dX1_faults_14 (by decide) (fun c14 => ?_) (fun c14 => ?_)
    · refine xs_sub (L' := [(1, _), (2, _), (3, _), (0, _)]) [3, 2, 1, 4] rfl ?_
      exact t_Ln_fa1 _ _ _ (by simp only [mLn_faL, if_pos c14] at hX; exact hX)
    · refine xs_iload_n 2 dX1_faults_17 rfl ?_
      refine xs_sipush (v := 2002) dX1_faults_18 (by decide) ?_
      refine xs_icmp_ge (t := 56) dX1_faults_21 (by decide) (fun c21 => ?_) (fun c21 => ?_)
      · exact absurd c21 (show ¬ (2002 : Int32) ≤ nI i from kn_nle (m := 2002) (by omega) (by decide))
      · refine xs_aload_n 4 dX1_faults_24 rfl ?_
        refine g_Ln_before dX1_faults_25 ?_
        refine xs_iload 0 dX1_faults_28 rfl ?_
        refine al_S0 dX1_faults_30 ?_
        refine xs_iload_n 1 dX1_faults_31 rfl ?_
        refine xs_scmp_eq (t := 38) dX1_faults_32 (by decide) (fun c32 => ?_) (fun c32 => ?_)
        · refine xs_iload 0 dX1_faults_38 rfl ?_
          refine xs_istore_n (L' := [(3, _), (4, _), (2, _), (1, _), (0, _)]) dX1_faults_40 (by decide) rfl ?_
          refine xs_aload_n 4 dX1_faults_41 rfl ?_
          refine g_Ln_behind dX1_faults_42 ?_
          refine xs_iload 1 dX1_faults_45 rfl ?_
          refine al_S1 dX1_faults_47 ?_
          refine xs_istore (L' := [(4, _), (3, _), (2, _), (1, _), (0, _)]) dX1_faults_48 (by decide) rfl ?_
          refine xs_iinc_n (L' := [(2, _), (4, _), (3, _), (1, _), (0, _)]) 2 dX1_faults_50 rfl (by decide) rfl ?_
          refine xs_goto (t := 12) dX1_faults_53 (by decide) ?_
          refine xs_sub (L' := [(4, _), (3, _), (2, _), (1, _), (0, _)]) [1, 2, 0, 3, 4] rfl ?_
          exact ih _ _ _ _ (by omega) (by simp only [mLn_faL, if_neg c14, if_neg c21, if_pos c32] at hX; exact hX)
        · refine xs_iinc_1 (L' := [(1, _), (4, _), (3, _), (2, _), (0, _)]) 3 dX1_faults_35 rfl (by decide) rfl ?_
          refine xs_iload 1 dX1_faults_38 rfl ?_
          refine xs_istore_n (L' := [(3, _), (1, _), (4, _), (2, _), (0, _)]) dX1_faults_40 (by decide) rfl ?_
          refine xs_aload_n 4 dX1_faults_41 rfl ?_
          refine g_Ln_behind dX1_faults_42 ?_
          refine xs_iload 2 dX1_faults_45 rfl ?_
          refine al_S1 dX1_faults_47 ?_
          refine xs_istore (L' := [(4, _), (3, _), (1, _), (2, _), (0, _)]) dX1_faults_48 (by decide) rfl ?_
          refine xs_iinc_n (L' := [(2, _), (4, _), (3, _), (1, _), (0, _)]) 3 dX1_faults_50 rfl (by decide) rfl ?_
          refine xs_goto (t := 12) dX1_faults_53 (by decide) ?_
          refine xs_sub (L' := [(4, _), (3, _), (2, _), (1, _), (0, _)]) [1, 2, 0, 3, 4] rfl ?_
          exact ih _ _ _ _ (by omega) (by simp only [mLn_faL, if_neg c14, if_neg c21, if_neg c32] at hX; exact hX)
set_option maxHeartbeats 4000000 in
set_option maxRecDepth 100000 in
theorem c_Ln_faults (ad : Nat → Nat) (cA : ClassId) (s : zT) : xct cA yX1_faults cX1_faults 5 (some .int) R_Ln_faults [.ref (ad 2)] (wd ad cA s) (some (.int (mLn_faults s))) (wd ad cA (s)) := by
  refine xct_of (own := RX1) (by decide) rfl (Nat.le_of_ble_eq_true rfl) (fun X hX => ?_)
  show xs X cA RX1 cX1_faults 5 (some .int) R_Ln_faults (wd ad cA s) 0 0 0 [(0, .ref (ad 2))] []
  refine xs_iconst (v := 0) dX1_faults_0 (by decide) ?_
  refine xs_istore_n (L' := [(1, _), (0, _)]) dX1_faults_1 (by decide) rfl ?_
  refine xs_iconst (v := nI 0) dX1_faults_2 rfl ?_
  refine xs_istore_n (L' := [(2, _), (1, _), (0, _)]) dX1_faults_3 (by decide) rfl ?_
  refine xs_iconst (v := zs 0) dX1_faults_4 rfl ?_
  refine xs_istore_n (L' := [(3, _), (2, _), (1, _), (0, _)]) dX1_faults_5 (by decide) rfl ?_
  refine xs_aload_n 3 dX1_faults_6 rfl ?_
  refine g_Ln_first dX1_faults_7 ?_
  refine xs_istore (L' := [(4, _), (3, _), (2, _), (1, _), (0, _)]) dX1_faults_10 (by decide) rfl ?_
  refine xs_sub (L' := [(4, _), (3, _), (2, _), (1, _), (0, _)]) [0, 1, 2, 3, 4] rfl ?_
  exact t_Ln_faL 2002 0 _ _ _ rfl hX
theorem k_Ln_faults {X : xz_X} {cA : ClassId} {own : String} {ad : Nat → Nat} {cc : ByteArray} {nL : Nat} {ret : Option FieldType} {R : Room} {s : zT} {pc ix : Nat} {L : List (Nat × Value)} {st : List Value} (d : decode cc pc = .ok (.invokevirtual ix, 3)) (hw : xwV own ix yX1_faults cX1_faults 5 (some .int) 0) (hR : xroom R_Ln_faults 5 R) (hst : (st.map fun v => v.category).sum ≤ 8) (kk : xs X cA own cc nL ret R (wd ad cA (s)) 0 0 (pc + 3) L (.int (mLn_faults s) :: st)) : xs X cA own cc nL ret R (wd ad cA s) 0 0 pc L (.ref (ad 2) :: st) :=
  xs_call 2 (c_Ln_faults ad cA s) rfl rfl d hw hR rfl rfl rfl hst ⟨Nat.zero_le _, Nat.zero_le _⟩ kk
