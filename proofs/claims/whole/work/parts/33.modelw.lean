abbrev R_Mo_thrown : Room := { frames := 0, cells := 0, slots := 0, locals := 0 }
set_option maxHeartbeats 4000000 in
set_option maxRecDepth 100000 in
theorem c_Mo_thrown (am : Nat → Nat) (cA : ClassId) (s : zM) : xct cA yX4_thrown cX4_thrown 1 (some .int) R_Mo_thrown [.ref (am 0)] (wm am cA s) (some (.int (s.1 4 0))) (wm am cA (s)) := by
  refine xct_of (own := RX4) (by decide) rfl (Nat.le_of_ble_eq_true rfl) (fun X hX => ?_)
  show xs X cA RX4 cX4_thrown 1 (some .int) R_Mo_thrown (wm am cA s) 0 0 0 [(0, .ref (am 0))] []
  refine xs_aload_n 0 dX4_thrown_0 rfl ?_
  refine g_Mo_failed dX4_thrown_1 ?_
  exact xs_iret hX rfl dX4_thrown_4 rfl rfl
theorem k_Mo_thrown {X : xz_X} {cA : ClassId} {own : String} {am : Nat → Nat} {cc : ByteArray} {nL : Nat} {ret : Option FieldType} {R : Room} {s : zM} {pc ix : Nat} {L : List (Nat × Value)} {st : List Value} (d : decode cc pc = .ok (.invokevirtual ix, 3)) (hw : xwV own ix yX4_thrown cX4_thrown 1 (some .int) 0) (hR : xroom R_Mo_thrown 1 R) (hst : (st.map fun v => v.category).sum ≤ 8) (kk : xs X cA own cc nL ret R (wm am cA (s)) 0 0 (pc + 3) L (.int (s.1 4 0) :: st)) : xs X cA own cc nL ret R (wm am cA s) 0 0 pc L (.ref (am 0) :: st) :=
  xs_call 0 (c_Mo_thrown am cA s) rfl rfl d hw hR rfl rfl rfl hst ⟨Nat.zero_le _, Nat.zero_le _⟩ kk
abbrev R_Mo_fail : Room := { frames := 0, cells := 0, slots := 0, locals := 0 }
set_option maxHeartbeats 4000000 in
set_option maxRecDepth 100000 in
theorem c_Mo_fail (am : Nat → Nat) (cA : ClassId) (s : zM) (c : Int32) : xct cA yX4_fail cX4_fail 2 (some .int) R_Mo_fail [.ref (am 0), .int c] (wm am cA s) (some (.int (0))) (wm am cA (y1 s 4 0 c)) := by
  refine xct_of (own := RX4) (by decide) rfl (Nat.le_of_ble_eq_true rfl) (fun X hX => ?_)
  show xs X cA RX4 cX4_fail 2 (some .int) R_Mo_fail (wm am cA s) 0 0 0 [(0, .ref (am 0)), (1, .int c)] []
  refine xs_aload_n 0 dX4_fail_0 rfl ?_
  refine xs_iload_n 1 dX4_fail_1 rfl ?_
  refine p_Mo_failed dX4_fail_2 ?_
  refine xs_iconst (v := 0) dX4_fail_5 (by decide) ?_
  exact xs_iret hX rfl dX4_fail_6 rfl rfl
theorem k_Mo_fail {X : xz_X} {cA : ClassId} {own : String} {am : Nat → Nat} {cc : ByteArray} {nL : Nat} {ret : Option FieldType} {R : Room} {s : zM} {pc ix : Nat} {L : List (Nat × Value)} {st : List Value} {c : Int32} (d : decode cc pc = .ok (.invokevirtual ix, 3)) (hw : xwV own ix yX4_fail cX4_fail 2 (some .int) 1) (hR : xroom R_Mo_fail 2 R) (hst : (st.map fun v => v.category).sum ≤ 8) (kk : xs X cA own cc nL ret R (wm am cA (y1 s 4 0 c)) 0 0 (pc + 3) L (.int (0) :: st)) : xs X cA own cc nL ret R (wm am cA s) 0 0 pc L (.int c :: .ref (am 0) :: st) :=
  xs_call 0 (c_Mo_fail am cA s c) rfl rfl d hw hR rfl rfl rfl hst ⟨Nat.zero_le _, Nat.zero_le _⟩ kk
abbrev R_Mo_at1 : Room := { frames := 0, cells := 0, slots := 0, locals := 0 }
set_option maxHeartbeats 4000000 in
set_option maxRecDepth 100000 in
theorem t_Mo_at1 {X : xz_X} {am : Nat → Nat} {cA : ClassId} {s : zM} {key : Int32} (hz : s.2.2.2 ≤ 2000) : ∀ (n i : Nat), i + n = s.2.2.2 → xfin X cA 0 0 (some (.int (zo (mMo_at1L s key n i)))) (wm am cA (s)) → xs X cA RX4 cX4_at1 3 (some .int) R_Mo_at1 (wm am cA s) 0 0 2 [(2, .int (nI i)), (1, .int key), (0, .ref (am 0))] [] := by
  intro n
  induction n with
  | zero =>
    intro i hi hX
    refine xs_iload_n 0 dX4_at1_2 rfl ?_
    refine xs_aload_n 2 dX4_at1_3 rfl ?_
    refine g_Mo_size dX4_at1_4 ?_
    refine xs_icmp_ge (t := 28) dX4_at1_7 (by decide) (fun c7 => ?_) (fun c7 => ?_)
    · refine xs_iconst (v := (-1)) dX4_at1_28 (by decide) ?_
      exact xs_iret hX rfl dX4_at1_29 rfl rfl
    · exact absurd (kn_le (by omega) (by omega)) c7
  | succ n ih =>
    intro i hi hX
    refine xs_iload_n 0 dX4_at1_2 rfl ?_
    refine xs_aload_n 2 dX4_at1_3 rfl ?_
    refine g_Mo_size dX4_at1_4 ?_
    refine xs_icmp_ge (t := 28) dX4_at1_7 (by decide) (fun c7 => ?_) (fun c7 => ?_)
    · exact absurd c7 (kn_nle (by omega) (by omega))
    · refine xs_aload_n 2 dX4_at1_10 rfl ?_
      refine g_Mo_keys dX4_at1_11 ?_
      refine xs_iload_n 0 dX4_at1_14 rfl ?_
      refine aln_M0 dX4_at1_15 (by omega) ?_
      refine xs_iload_n 1 dX4_at1_16 rfl ?_
      refine xs_icmp_ne (t := 22) dX4_at1_17 (by decide) (fun c17 => ?_) (fun c17 => ?_)
      · refine xs_iinc_n (L' := [(2, _), (1, _), (0, _)]) 0 dX4_at1_22 rfl (by decide) rfl ?_
        refine xs_goto (t := 2) dX4_at1_25 (by decide) ?_
        refine xs_sub (L' := [(2, _), (1, _), (0, _)]) [0, 1, 2] rfl ?_
        exact ih _ (by omega) (by simp only [mMo_at1L, if_neg c7, if_neg c17] at hX; exact hX)
      · refine xs_iload_n 0 dX4_at1_20 rfl ?_
        exact xs_iret hX rfl dX4_at1_21 (by simp only [mMo_at1L, if_neg c7, if_pos c17, zo]) rfl
set_option maxHeartbeats 4000000 in
set_option maxRecDepth 100000 in
theorem c_Mo_at1 (am : Nat → Nat) (cA : ClassId) (s : zM) (key : Int32) (hz : s.2.2.2 ≤ 2000) : xct cA yX4_at1 cX4_at1 3 (some .int) R_Mo_at1 [.ref (am 0), .int key] (wm am cA s) (some (.int (zo (mMo_at1 s key)))) (wm am cA (s)) := by
  refine xct_of (own := RX4) (by decide) rfl (Nat.le_of_ble_eq_true rfl) (fun X hX => ?_)
  show xs X cA RX4 cX4_at1 3 (some .int) R_Mo_at1 (wm am cA s) 0 0 0 [(0, .ref (am 0)), (1, .int key)] []
  refine xs_iconst (v := nI 0) dX4_at1_0 rfl ?_
  refine xs_istore_n (L' := [(2, _), (0, _), (1, _)]) dX4_at1_1 (by decide) rfl ?_
  refine xs_sub (L' := [(2, _), (1, _), (0, _)]) [0, 2, 1] rfl ?_
  exact t_Mo_at1 hz s.2.2.2 0 (Nat.zero_add _) hX
theorem k_Mo_at1 {X : xz_X} {cA : ClassId} {own : String} {am : Nat → Nat} {cc : ByteArray} {nL : Nat} {ret : Option FieldType} {R : Room} {s : zM} {pc ix : Nat} {L : List (Nat × Value)} {st : List Value} {key : Int32} (d : decode cc pc = .ok (.invokevirtual ix, 3)) (hw : xwV own ix yX4_at1 cX4_at1 3 (some .int) 1) (hR : xroom R_Mo_at1 3 R) (hst : (st.map fun v => v.category).sum ≤ 8) (hz : s.2.2.2 ≤ 2000) (kk : xs X cA own cc nL ret R (wm am cA (s)) 0 0 (pc + 3) L (.int (zo (mMo_at1 s key)) :: st)) : xs X cA own cc nL ret R (wm am cA s) 0 0 pc L (.int key :: .ref (am 0) :: st) :=
  xs_call 0 (c_Mo_at1 am cA s key hz) rfl rfl d hw hR rfl rfl rfl hst ⟨Nat.zero_le _, Nat.zero_le _⟩ kk
abbrev R_Mo_place : Room := { frames := 0, cells := 0, slots := 0, locals := 0 }
set_option maxHeartbeats 4000000 in
set_option maxRecDepth 100000 in
theorem c_Mo_place (am : Nat → Nat) (cA : ClassId) (s : zM) (key : Int32) (hr : mrok s) : xct cA yX4_place cX4_place 3 (some .int) R_Mo_place [.ref (am 0), .int key] (wm am cA s) (some (.int (zp (mMo_place s key)))) (wm am cA (s)) := by
  refine xct_of (own := RX4) (by decide) rfl (Nat.le_of_ble_eq_true rfl) (fun X hX => ?_)
  show xs X cA RX4 cX4_place 3 (some .int) R_Mo_place (wm am cA s) 0 0 0 [(0, .ref (am 0)), (1, .int key)] []
  refine xs_aload_n 0 dX4_place_0 rfl ?_
  refine g_Mo_function dX4_place_1 ?_
  refine xs_if_ne (t := 11) dX4_place_4 (by decide) (fun c4 => ?_) (fun c4 => ?_)
  · refine xs_aload_n 0 dX4_place_11 rfl ?_
    refine g_Mo_function dX4_place_12 ?_
    refine xs_iconst (v := 1) dX4_place_15 (by decide) ?_
    refine xs_icmp_ne (t := 25) dX4_place_16 (by decide) (fun c16 => ?_) (fun c16 => ?_)
    · refine xs_iload_n 1 dX4_place_25 rfl ?_
      refine xs_ldc (v := (-1640531527)) dX4_place_26 (xt_of (by decide +kernel) rfl) ?_
      refine xs_imul dX4_place_28 ?_
      refine xs_istore_n (L' := [(2, _), (0, _), (1, _)]) dX4_place_29 (by decide) rfl ?_
      refine xs_iload_n 0 dX4_place_30 rfl ?_
      refine xs_iload_n 0 dX4_place_31 rfl ?_
      refine xs_bipush (v := 16) dX4_place_32 (by decide) ?_
      refine xs_iushr dX4_place_34 ?_
      refine xs_ixor dX4_place_35 ?_
      refine xs_aload_n 1 dX4_place_36 rfl ?_
      refine g_Mo_room dX4_place_37 ?_
      refine xs_iconst (v := 1) dX4_place_40 (by decide) ?_
      refine xs_isub dX4_place_41 ?_
      refine xs_iand dX4_place_42 ?_
      exact xs_iret hX rfl dX4_place_43 (by have h := mplace_eq (key := key) hr; simp only [mMo_code, if_neg c4, if_neg c16] at h; exact h) rfl
    · refine xs_iload_n 1 dX4_place_19 rfl ?_
      refine xs_iconst (v := 3) dX4_place_20 (by decide) ?_
      refine xs_iand dX4_place_21 ?_
      refine xs_goto (t := 29) dX4_place_22 (by decide) ?_
      refine xs_istore_n (L' := [(2, _), (0, _), (1, _)]) dX4_place_29 (by decide) rfl ?_
      refine xs_iload_n 0 dX4_place_30 rfl ?_
      refine xs_iload_n 0 dX4_place_31 rfl ?_
      refine xs_bipush (v := 16) dX4_place_32 (by decide) ?_
      refine xs_iushr dX4_place_34 ?_
      refine xs_ixor dX4_place_35 ?_
      refine xs_aload_n 1 dX4_place_36 rfl ?_
      refine g_Mo_room dX4_place_37 ?_
      refine xs_iconst (v := 1) dX4_place_40 (by decide) ?_
      refine xs_isub dX4_place_41 ?_
      refine xs_iand dX4_place_42 ?_
      exact xs_iret hX rfl dX4_place_43 (by have h := mplace_eq (key := key) hr; simp only [mMo_code, if_neg c4, if_pos c16] at h; exact h) rfl
  · refine xs_iload_n 1 dX4_place_7 rfl ?_
    refine xs_goto (t := 29) dX4_place_8 (by decide) ?_
    refine xs_istore_n (L' := [(2, _), (0, _), (1, _)]) dX4_place_29 (by decide) rfl ?_
    refine xs_iload_n 0 dX4_place_30 rfl ?_
    refine xs_iload_n 0 dX4_place_31 rfl ?_
    refine xs_bipush (v := 16) dX4_place_32 (by decide) ?_
    refine xs_iushr dX4_place_34 ?_
    refine xs_ixor dX4_place_35 ?_
    refine xs_aload_n 1 dX4_place_36 rfl ?_
    refine g_Mo_room dX4_place_37 ?_
    refine xs_iconst (v := 1) dX4_place_40 (by decide) ?_
    refine xs_isub dX4_place_41 ?_
    refine xs_iand dX4_place_42 ?_
    exact xs_iret hX rfl dX4_place_43 (by have h := mplace_eq (key := key) hr; simp only [mMo_code, if_pos c4] at h; exact h) rfl
theorem k_Mo_place {X : xz_X} {cA : ClassId} {own : String} {am : Nat → Nat} {cc : ByteArray} {nL : Nat} {ret : Option FieldType} {R : Room} {s : zM} {pc ix : Nat} {L : List (Nat × Value)} {st : List Value} {key : Int32} (d : decode cc pc = .ok (.invokevirtual ix, 3)) (hw : xwV own ix yX4_place cX4_place 3 (some .int) 1) (hR : xroom R_Mo_place 3 R) (hst : (st.map fun v => v.category).sum ≤ 8) (hr : mrok s) (kk : xs X cA own cc nL ret R (wm am cA (s)) 0 0 (pc + 3) L (.int (zp (mMo_place s key)) :: st)) : xs X cA own cc nL ret R (wm am cA s) 0 0 pc L (.int key :: .ref (am 0) :: st) :=
  xs_call 0 (c_Mo_place am cA s key hr) rfl rfl d hw hR rfl rfl rfl hst ⟨Nat.zero_le _, Nat.zero_le _⟩ kk
abbrev R_Mo_remove : Room := { frames := 0, cells := 0, slots := 0, locals := 0 }
set_option maxHeartbeats 4000000 in
set_option maxRecDepth 100000 in
theorem t_Mo_rem {X : xz_X} {am : Nat → Nat} {cA : ClassId} : ∀ (n i : Nat) (s : zM), i + n = s.2.2.2 → s.2.2.2 < 2000 → xfin X cA 0 0 none (wm am cA (mMo_remL n i s)) → xs X cA RX4 cX4_removeAt 3 none R_Mo_remove (wm am cA s) 0 0 12 [(2, .int (nI i)), (0, .ref (am 0))] [] := by
  intro n
  induction n with
  | zero =>
    intro i s hi hs hX
    refine xs_iload_n 0 dX4_removeAt_12 rfl ?_
    refine xs_aload_n 1 dX4_removeAt_13 rfl ?_
    refine g_Mo_size dX4_removeAt_14 ?_
    refine xs_icmp_ge (t := 54) dX4_removeAt_17 (by decide) (fun c17 => ?_) (fun c17 => ?_)
    · exact xs_vret hX rfl dX4_removeAt_54 rfl
    · exact absurd (kn_le (by omega) (by omega)) c17
  | succ n ih =>
    intro i s hi hs hX
    refine xs_iload_n 0 dX4_removeAt_12 rfl ?_
    refine xs_aload_n 1 dX4_removeAt_13 rfl ?_
    refine g_Mo_size dX4_removeAt_14 ?_
    refine xs_icmp_ge (t := 54) dX4_removeAt_17 (by decide) (fun c17 => ?_) (fun c17 => ?_)
    · exact absurd c17 (kn_nle (by omega) (by omega))
    · refine xs_aload_n 1 dX4_removeAt_20 rfl ?_
      refine g_Mo_keys dX4_removeAt_21 ?_
      refine xs_iload_n 0 dX4_removeAt_24 rfl ?_
      refine xs_aload_n 1 dX4_removeAt_25 rfl ?_
      refine g_Mo_keys dX4_removeAt_26 ?_
      refine xs_iload_n 0 dX4_removeAt_29 rfl ?_
      refine xs_iconst (v := 1) dX4_removeAt_30 (by decide) ?_
      refine xs_iadd dX4_removeAt_31 ?_
      refine xs_top (nI_1 i) ?_
      refine aln_M0 dX4_removeAt_32 (by omega) ?_
      refine asn_M0 dX4_removeAt_33 (by omega) ?_
      refine xs_aload_n 1 dX4_removeAt_34 rfl ?_
      refine g_Mo_numbers dX4_removeAt_35 ?_
      refine xs_iload_n 0 dX4_removeAt_38 rfl ?_
      refine xs_aload_n 1 dX4_removeAt_39 rfl ?_
      refine g_Mo_numbers dX4_removeAt_40 ?_
      refine xs_iload_n 0 dX4_removeAt_43 rfl ?_
      refine xs_iconst (v := 1) dX4_removeAt_44 (by decide) ?_
      refine xs_iadd dX4_removeAt_45 ?_
      refine xs_top (nI_1 i) ?_
      refine aln_M1 dX4_removeAt_46 (by omega) ?_
      refine asn_M1 dX4_removeAt_47 (by omega) ?_
      refine xs_iinc_n (L' := [(2, _), (0, _)]) 0 dX4_removeAt_48 rfl (by decide) rfl ?_
      refine xs_goto (t := 12) dX4_removeAt_51 (by decide) ?_
      refine xs_sub (L' := [(2, _), (0, _)]) [0, 1] rfl ?_
      exact ih _ _ (by show i + 1 + n = s.2.2.2; omega) hs hX
set_option maxHeartbeats 4000000 in
set_option maxRecDepth 100000 in
theorem c_Mo_remove (am : Nat → Nat) (cA : ClassId) (s : zM) (j : Nat) (hz : s.2.2.2 ≤ 2000) (hj : j < s.2.2.2) : xct cA yX4_removeAt cX4_removeAt 3 none R_Mo_remove [.ref (am 0), .int (nI j)] (wm am cA s) none (wm am cA (mMo_remove s j)) := by
  refine xct_of (own := RX4) (by decide) rfl (Nat.le_of_ble_eq_true rfl) (fun X hX => ?_)
  show xs X cA RX4 cX4_removeAt 3 none R_Mo_remove (wm am cA s) 0 0 0 [(0, .ref (am 0)), (1, .int (nI j))] []
  refine xs_aload_n 0 dX4_removeAt_0 rfl ?_
  refine xs_dup dX4_removeAt_1 rfl ?_
  refine g_Mo_size dX4_removeAt_2 ?_
  refine xs_iconst (v := 1) dX4_removeAt_5 (by decide) ?_
  refine xs_isub dX4_removeAt_6 ?_
  refine xs_top (nI_m1 (by omega)) ?_
  refine p_Mo_size dX4_removeAt_7 ?_
  refine xs_iload_n 1 dX4_removeAt_10 rfl ?_
  refine xs_istore_n (L' := [(2, _), (0, _), (1, _)]) dX4_removeAt_11 (by decide) rfl ?_
  refine xs_sub (L' := [(2, _), (0, _)]) [0, 1] rfl ?_
  exact t_Mo_rem (s.2.2.2 - 1 - j) j _ (by show j + (s.2.2.2 - 1 - j) = s.2.2.2 - 1; omega) (by show s.2.2.2 - 1 < 2000; omega) hX
theorem k_Mo_remove {X : xz_X} {cA : ClassId} {own : String} {am : Nat → Nat} {cc : ByteArray} {nL : Nat} {ret : Option FieldType} {R : Room} {s : zM} {pc ix : Nat} {L : List (Nat × Value)} {st : List Value} {j : Nat} (d : decode cc pc = .ok (.invokevirtual ix, 3)) (hw : xwV own ix yX4_removeAt cX4_removeAt 3 none 1) (hR : xroom R_Mo_remove 3 R) (hst : (st.map fun v => v.category).sum ≤ 8) (hz : s.2.2.2 ≤ 2000) (hj : j < s.2.2.2) (kk : xs X cA own cc nL ret R (wm am cA (mMo_remove s j)) 0 0 (pc + 3) L (st)) : xs X cA own cc nL ret R (wm am cA s) 0 0 pc L (.int (nI j) :: .ref (am 0) :: st) :=
  xs_call 0 (c_Mo_remove am cA s j hz hj) rfl rfl d hw hR rfl rfl rfl hst ⟨Nat.zero_le _, Nat.zero_le _⟩ kk
abbrev R_Mo_append : Room := { frames := 0, cells := 0, slots := 0, locals := 0 }
set_option maxHeartbeats 4000000 in
set_option maxRecDepth 100000 in
theorem c_Mo_append (am : Nat → Nat) (cA : ClassId) (s : zM) (key : Int32) (x : Int32) (hz : s.2.2.2 < 2000) : xct cA yX4_append cX4_append 3 none R_Mo_append [.ref (am 0), .int key, .int x] (wm am cA s) none (wm am cA (mMo_append s key x)) := by
  refine xct_of (own := RX4) (by decide) rfl (Nat.le_of_ble_eq_true rfl) (fun X hX => ?_)
  show xs X cA RX4 cX4_append 3 none R_Mo_append (wm am cA s) 0 0 0 [(0, .ref (am 0)), (1, .int key), (2, .int x)] []
  refine xs_aload_n 0 dX4_append_0 rfl ?_
  refine g_Mo_keys dX4_append_1 ?_
  refine xs_aload_n 0 dX4_append_4 rfl ?_
  refine g_Mo_size dX4_append_5 ?_
  refine xs_iload_n 1 dX4_append_8 rfl ?_
  refine asn_M0 dX4_append_9 hz ?_
  refine xs_aload_n 0 dX4_append_10 rfl ?_
  refine g_Mo_numbers dX4_append_11 ?_
  refine xs_aload_n 0 dX4_append_14 rfl ?_
  refine g_Mo_size dX4_append_15 ?_
  refine xs_iload_n 2 dX4_append_18 rfl ?_
  refine asn_M1 dX4_append_19 hz ?_
  refine xs_aload_n 0 dX4_append_20 rfl ?_
  refine xs_dup dX4_append_21 rfl ?_
  refine g_Mo_size dX4_append_22 ?_
  refine xs_iconst (v := 1) dX4_append_25 (by decide) ?_
  refine xs_iadd dX4_append_26 ?_
  refine xs_top (nI_1 _) ?_
  refine p_Mo_size dX4_append_27 ?_
  exact xs_vret hX rfl dX4_append_30 rfl
theorem k_Mo_append {X : xz_X} {cA : ClassId} {own : String} {am : Nat → Nat} {cc : ByteArray} {nL : Nat} {ret : Option FieldType} {R : Room} {s : zM} {pc ix : Nat} {L : List (Nat × Value)} {st : List Value} {key : Int32} {x : Int32} (d : decode cc pc = .ok (.invokevirtual ix, 3)) (hw : xwV own ix yX4_append cX4_append 3 none 2) (hR : xroom R_Mo_append 3 R) (hst : (st.map fun v => v.category).sum ≤ 8) (hz : s.2.2.2 < 2000) (kk : xs X cA own cc nL ret R (wm am cA (mMo_append s key x)) 0 0 (pc + 3) L (st)) : xs X cA own cc nL ret R (wm am cA s) 0 0 pc L (.int x :: .int key :: .ref (am 0) :: st) :=
  xs_call 0 (c_Mo_append am cA s key x hz) rfl rfl d hw hR rfl rfl rfl hst ⟨Nat.zero_le _, Nat.zero_le _⟩ kk
abbrev R_Mo_touch : Room := { frames := 1, cells := 0, slots := 0, locals := 22 }
set_option maxRecDepth 100000 in
theorem kw_Mo_Mo_remove : xwV RX4 46 yX4_removeAt cX4_removeAt 3 none 1 := ⟨⟨xt_of (List.mem_of_getElem? (i := 623) rfl) rfl, xt_of (by decide +kernel) rfl, xt_of (by decide +kernel) rfl, by decide +kernel⟩, xt_of (by decide +kernel) rfl, xt_of (by decide +kernel) rfl⟩
set_option maxRecDepth 100000 in
theorem kw_Mo_Mo_append : xwV RX4 50 yX4_append cX4_append 3 none 2 := ⟨⟨xt_of (List.mem_of_getElem? (i := 627) rfl) rfl, xt_of (by decide +kernel) rfl, xt_of (by decide +kernel) rfl, by decide +kernel⟩, xt_of (by decide +kernel) rfl, xt_of (by decide +kernel) rfl⟩
set_option maxHeartbeats 4000000 in
set_option maxRecDepth 100000 in
theorem c_Mo_touch (am : Nat → Nat) (cA : ClassId) (s : zM) (j : Nat) (hz : s.2.2.2 ≤ 2000) (hj : j < s.2.2.2) : xct cA yX4_touch cX4_touch 4 none R_Mo_touch [.ref (am 0), .int (nI j)] (wm am cA s) none (wm am cA (mMo_touch s j)) := by
  refine xct_of (own := RX4) (by decide) rfl (Nat.le_of_ble_eq_true rfl) (fun X hX => ?_)
  show xs X cA RX4 cX4_touch 4 none R_Mo_touch (wm am cA s) 0 0 0 [(0, .ref (am 0)), (1, .int (nI j))] []
  refine xs_aload_n 0 dX4_touch_0 rfl ?_
  refine g_Mo_keys dX4_touch_1 ?_
  refine xs_iload_n 1 dX4_touch_4 rfl ?_
  refine aln_M0 dX4_touch_5 (by omega) ?_
  refine xs_istore_n (L' := [(2, _), (0, _), (1, _)]) dX4_touch_6 (by decide) rfl ?_
  refine xs_aload_n 1 dX4_touch_7 rfl ?_
  refine g_Mo_numbers dX4_touch_8 ?_
  refine xs_iload_n 2 dX4_touch_11 rfl ?_
  refine aln_M1 dX4_touch_12 (by omega) ?_
  refine xs_istore_n (L' := [(3, _), (2, _), (0, _), (1, _)]) dX4_touch_13 (by decide) rfl ?_
  refine xs_aload_n 2 dX4_touch_14 rfl ?_
  refine xs_iload_n 3 dX4_touch_15 rfl ?_
  refine k_Mo_remove dX4_touch_16 kw_Mo_Mo_remove (by decide) (Nat.le_of_ble_eq_true rfl) hz hj ?_
  refine xs_aload_n 2 dX4_touch_19 rfl ?_
  refine xs_iload_n 1 dX4_touch_20 rfl ?_
  refine xs_iload_n 0 dX4_touch_21 rfl ?_
  refine k_Mo_append dX4_touch_22 kw_Mo_Mo_append (by decide) (Nat.le_of_ble_eq_true rfl) (by rw [rem_z]; omega) ?_
  exact xs_vret hX rfl dX4_touch_25 rfl
theorem k_Mo_touch {X : xz_X} {cA : ClassId} {own : String} {am : Nat → Nat} {cc : ByteArray} {nL : Nat} {ret : Option FieldType} {R : Room} {s : zM} {pc ix : Nat} {L : List (Nat × Value)} {st : List Value} {j : Nat} (d : decode cc pc = .ok (.invokevirtual ix, 3)) (hw : xwV own ix yX4_touch cX4_touch 4 none 1) (hR : xroom R_Mo_touch 4 R) (hst : (st.map fun v => v.category).sum ≤ 8) (hz : s.2.2.2 ≤ 2000) (hj : j < s.2.2.2) (kk : xs X cA own cc nL ret R (wm am cA (mMo_touch s j)) 0 0 (pc + 3) L (st)) : xs X cA own cc nL ret R (wm am cA s) 0 0 pc L (.int (nI j) :: .ref (am 0) :: st) :=
  xs_call 0 (c_Mo_touch am cA s j hz hj) rfl rfl d hw hR rfl rfl rfl hst ⟨Nat.zero_le _, Nat.zero_le _⟩ kk
abbrev R_Mo_full : Room := { frames := 1, cells := 0, slots := 0, locals := 22 }
set_option maxRecDepth 100000 in
theorem kw_Mo_Mo_at1 : xwV RX4 54 yX4_at1 cX4_at1 3 (some .int) 1 := ⟨⟨xt_of (List.mem_of_getElem? (i := 610) rfl) rfl, xt_of (by decide +kernel) rfl, xt_of (by decide +kernel) rfl, by decide +kernel⟩, xt_of (by decide +kernel) rfl, xt_of (by decide +kernel) rfl⟩
set_option maxHeartbeats 4000000 in
set_option maxRecDepth 100000 in
theorem c_Mo_full (am : Nat → Nat) (cA : ClassId) (s : zM) (key : Int32) (hz : s.2.2.2 ≤ 2000) : xct cA yX4_full cX4_full 2 (some .boolean) R_Mo_full [.ref (am 0), .int key] (wm am cA s) (some (.int (zb (mMo_full s key)))) (wm am cA (s)) := by
  refine xct_of (own := RX4) (by decide) rfl (Nat.le_of_ble_eq_true rfl) (fun X hX => ?_)
  show xs X cA RX4 cX4_full 2 (some .boolean) R_Mo_full (wm am cA s) 0 0 0 [(0, .ref (am 0)), (1, .int key)] []
  refine xs_aload_n 0 dX4_full_0 rfl ?_
  refine g_Mo_mode dX4_full_1 ?_
  refine xs_iconst (v := 2) dX4_full_4 (by decide) ?_
  refine xs_icmp_ge (t := 30) dX4_full_5 (by decide) (fun c5 => ?_) (fun c5 => ?_)
  · refine xs_iconst (v := zb false) dX4_full_30 rfl ?_
    exact xs_zret hX rfl dX4_full_31 (by simp [mMo_full, c5]) rfl
  · refine xs_aload_n 0 dX4_full_8 rfl ?_
    refine g_Mo_size dX4_full_9 ?_
    refine xs_sipush (v := 2000) dX4_full_12 (by decide) ?_
    refine xs_icmp_ne (t := 30) dX4_full_15 (by decide) (fun c15 => ?_) (fun c15 => ?_)
    · refine xs_iconst (v := zb false) dX4_full_30 rfl ?_
      exact xs_zret hX rfl dX4_full_31 (by simp [mMo_full, c5, c15]) rfl
    · refine xs_aload_n 0 dX4_full_18 rfl ?_
      refine xs_iload_n 1 dX4_full_19 rfl ?_
      refine k_Mo_at1 dX4_full_20 kw_Mo_Mo_at1 (by decide) (Nat.le_of_ble_eq_true rfl) hz ?_
      refine xs_oif_ge (t := 30) dX4_full_23 (by decide) (fun _ h => Nat.lt_of_lt_of_le (at1_lt h) (Nat.le_trans hz (by decide))) (fun j23 c23 => ?_) (fun c23 => ?_)
      · refine xs_iconst (v := zb false) dX4_full_30 rfl ?_
        exact xs_zret hX rfl dX4_full_31 (by simp [mMo_full, c5, c15, c23]) rfl
      · refine xs_iconst (v := zb true) dX4_full_26 rfl ?_
        refine xs_goto (t := 31) dX4_full_27 (by decide) ?_
        exact xs_zret hX rfl dX4_full_31 (by simp [mMo_full, c5, c15, c23]) rfl
theorem k_Mo_full {X : xz_X} {cA : ClassId} {own : String} {am : Nat → Nat} {cc : ByteArray} {nL : Nat} {ret : Option FieldType} {R : Room} {s : zM} {pc ix : Nat} {L : List (Nat × Value)} {st : List Value} {key : Int32} (d : decode cc pc = .ok (.invokevirtual ix, 3)) (hw : xwV own ix yX4_full cX4_full 2 (some .boolean) 1) (hR : xroom R_Mo_full 2 R) (hst : (st.map fun v => v.category).sum ≤ 8) (hz : s.2.2.2 ≤ 2000) (kk : xs X cA own cc nL ret R (wm am cA (s)) 0 0 (pc + 3) L (.int (zb (mMo_full s key)) :: st)) : xs X cA own cc nL ret R (wm am cA s) 0 0 pc L (.int key :: .ref (am 0) :: st) :=
  xs_call 0 (c_Mo_full am cA s key hz) rfl rfl d hw hR rfl rfl rfl hst ⟨Nat.zero_le _, Nat.zero_le _⟩ kk
abbrev R_Mo_enter : Room := { frames := 2, cells := 0, slots := 0, locals := 45 }
set_option maxRecDepth 100000 in
theorem kw_Mo_Mo_touch : xwV RX4 57 yX4_touch cX4_touch 4 none 1 := ⟨⟨xt_of (List.mem_of_getElem? (i := 619) rfl) rfl, xt_of (by decide +kernel) rfl, xt_of (by decide +kernel) rfl, by decide +kernel⟩, xt_of (by decide +kernel) rfl, xt_of (by decide +kernel) rfl⟩
set_option maxHeartbeats 4000000 in
set_option maxRecDepth 100000 in
theorem t_Mo_ent2 {X : xz_X} {am : Nat → Nat} {cA : ClassId} {key x : Int32} : ∀ (s : zM), s.2.2.2 < 2000 → xfin X cA 0 0 none (wm am cA (mMo_ent2 s key x)) → xs X cA RX4 cX4_enter 4 none R_Mo_enter (wm am cA s) 0 0 55 [(2, .int x), (1, .int key), (0, .ref (am 0))] [] := by
  intro s hz hX
  refine xs_aload_n 2 dX4_enter_55 rfl ?_
  refine xs_iload_n 1 dX4_enter_56 rfl ?_
  refine xs_iload_n 0 dX4_enter_57 rfl ?_
  refine k_Mo_append dX4_enter_58 kw_Mo_Mo_append (by decide) (Nat.le_of_ble_eq_true rfl) hz ?_
  refine xs_aload_n 2 dX4_enter_61 rfl ?_
  refine g_Mo_mode dX4_enter_62 ?_
  refine xs_if_ne (t := 93) dX4_enter_65 (by decide) (fun c65 => ?_) (fun c65 => ?_)
  · exact xs_vret hX rfl dX4_enter_93 (by simp only [mMo_ent2, if_neg c65])
  · refine xs_iconst (v := 4) dX4_enter_68 (by decide) ?_
    refine xs_aload_n 2 dX4_enter_69 rfl ?_
    refine g_Mo_size dX4_enter_70 ?_
    refine xs_imul dX4_enter_73 ?_
    refine xs_iconst (v := 3) dX4_enter_74 (by decide) ?_
    refine xs_aload_n 2 dX4_enter_75 rfl ?_
    refine g_Mo_room dX4_enter_76 ?_
    refine xs_imul dX4_enter_79 ?_
    refine xs_icmp_le (t := 93) dX4_enter_80 (by decide) (fun c80 => ?_) (fun c80 => ?_)
    · exact xs_vret hX rfl dX4_enter_93 (by simp only [mMo_ent2, if_pos c65, if_pos c80])
    · refine xs_aload_n 2 dX4_enter_83 rfl ?_
      refine xs_dup dX4_enter_84 rfl ?_
      refine g_Mo_room dX4_enter_85 ?_
      refine xs_iconst (v := 2) dX4_enter_88 (by decide) ?_
      refine xs_imul dX4_enter_89 ?_
      refine p_Mo_room dX4_enter_90 ?_
      exact xs_vret hX rfl dX4_enter_93 (by simp only [mMo_ent2, if_pos c65, if_neg c80])
set_option maxHeartbeats 4000000 in
set_option maxRecDepth 100000 in
theorem c_Mo_enter (am : Nat → Nat) (cA : ClassId) (s : zM) (key : Int32) (x : Int32) (hz : s.2.2.2 ≤ 2000) (he : entOk s key) : xct cA yX4_enter cX4_enter 4 none R_Mo_enter [.ref (am 0), .int key, .int x] (wm am cA s) none (wm am cA (mMo_enter s key x)) := by
  refine xct_of (own := RX4) (by decide) rfl (Nat.le_of_ble_eq_true rfl) (fun X hX => ?_)
  show xs X cA RX4 cX4_enter 4 none R_Mo_enter (wm am cA s) 0 0 0 [(0, .ref (am 0)), (1, .int key), (2, .int x)] []
  refine xs_aload_n 0 dX4_enter_0 rfl ?_
  refine xs_iload_n 1 dX4_enter_1 rfl ?_
  refine k_Mo_at1 dX4_enter_2 kw_Mo_Mo_at1 (by decide) (Nat.le_of_ble_eq_true rfl) hz ?_
  refine xs_istore_n (L' := [(3, _), (0, _), (1, _), (2, _)]) dX4_enter_5 (by decide) rfl ?_
  refine xs_iload_n 0 dX4_enter_6 rfl ?_
  refine xs_oif_lt (t := 31) dX4_enter_7 (by decide) (fun _ h => Nat.lt_of_lt_of_le (at1_lt h) (Nat.le_trans hz (by decide))) (fun c7 => ?_) (fun j7 c7 => ?_)
  · refine xs_aload_n 1 dX4_enter_31 rfl ?_
    refine g_Mo_mode dX4_enter_32 ?_
    refine xs_iconst (v := 2) dX4_enter_35 (by decide) ?_
    refine xs_icmp_ne (t := 55) dX4_enter_36 (by decide) (fun c36 => ?_) (fun c36 => ?_)
    · refine xs_sub (L' := [(2, _), (1, _), (0, _)]) [3, 2, 1] rfl ?_
      exact t_Mo_ent2 _ (by first | (rw [rem_z]; have h := he c7; rw [if_pos ⟨c36, c47⟩] at h; omega) | (have h := he c7; rw [if_neg (fun q => c36 q.1)] at h; exact h) | (have h := he c7; rw [if_neg (fun q => c47 q.2)] at h; exact h)) (by simp only [mMo_enter, mMo_ent1, c7, if_neg c36] at hX; exact hX)
    · refine xs_aload_n 1 dX4_enter_39 rfl ?_
      refine g_Mo_size dX4_enter_40 ?_
      refine xs_aload_n 1 dX4_enter_43 rfl ?_
      refine g_Mo_most dX4_enter_44 ?_
      refine xs_icmp_ne (t := 55) dX4_enter_47 (by decide) (fun c47 => ?_) (fun c47 => ?_)
      · refine xs_sub (L' := [(2, _), (1, _), (0, _)]) [3, 2, 1] rfl ?_
        exact t_Mo_ent2 _ (by first | (rw [rem_z]; have h := he c7; rw [if_pos ⟨c36, c47⟩] at h; omega) | (have h := he c7; rw [if_neg (fun q => c36 q.1)] at h; exact h) | (have h := he c7; rw [if_neg (fun q => c47 q.2)] at h; exact h)) (by simp only [mMo_enter, mMo_ent1, c7, if_pos c36, if_neg c47] at hX; exact hX)
      · refine xs_aload_n 1 dX4_enter_50 rfl ?_
        refine xs_iconst (v := nI 0) dX4_enter_51 rfl ?_
        refine k_Mo_remove dX4_enter_52 kw_Mo_Mo_remove (by decide) (Nat.le_of_ble_eq_true rfl) hz (by have h := he c7; rw [if_pos ⟨c36, c47⟩] at h; exact h) ?_
        refine xs_sub (L' := [(2, _), (1, _), (0, _)]) [3, 2, 1] rfl ?_
        exact t_Mo_ent2 _ (by first | (rw [rem_z]; have h := he c7; rw [if_pos ⟨c36, c47⟩] at h; omega) | (have h := he c7; rw [if_neg (fun q => c36 q.1)] at h; exact h) | (have h := he c7; rw [if_neg (fun q => c47 q.2)] at h; exact h)) (by simp only [mMo_enter, mMo_ent1, c7, if_pos c36, if_pos c47] at hX; exact hX)
  · simp only [c7, zo]
    refine xs_aload_n 1 dX4_enter_10 rfl ?_
    refine g_Mo_numbers dX4_enter_11 ?_
    refine xs_iload_n 0 dX4_enter_14 rfl ?_
    refine xs_iload_n 3 dX4_enter_15 rfl ?_
    refine asn_M1 dX4_enter_16 (by have := at1_lt c7; omega) ?_
    refine xs_aload_n 1 dX4_enter_17 rfl ?_
    refine g_Mo_mode dX4_enter_18 ?_
    refine xs_iconst (v := 2) dX4_enter_21 (by decide) ?_
    refine xs_icmp_ne (t := 30) dX4_enter_22 (by decide) (fun c22 => ?_) (fun c22 => ?_)
    · exact xs_vret hX rfl dX4_enter_30 (by simp only [mMo_enter, mMo_ent0, c7, if_neg c22])
    · refine xs_aload_n 1 dX4_enter_25 rfl ?_
      refine xs_iload_n 0 dX4_enter_26 rfl ?_
      refine k_Mo_touch dX4_enter_27 kw_Mo_Mo_touch (by decide) (Nat.le_of_ble_eq_true rfl) hz (show j7 < s.2.2.2 from at1_lt c7) ?_
      exact xs_vret hX rfl dX4_enter_30 (by simp only [mMo_enter, mMo_ent0, c7, if_pos c22])
theorem k_Mo_enter {X : xz_X} {cA : ClassId} {own : String} {am : Nat → Nat} {cc : ByteArray} {nL : Nat} {ret : Option FieldType} {R : Room} {s : zM} {pc ix : Nat} {L : List (Nat × Value)} {st : List Value} {key : Int32} {x : Int32} (d : decode cc pc = .ok (.invokevirtual ix, 3)) (hw : xwV own ix yX4_enter cX4_enter 4 none 2) (hR : xroom R_Mo_enter 4 R) (hst : (st.map fun v => v.category).sum ≤ 8) (hz : s.2.2.2 ≤ 2000) (he : entOk s key) (kk : xs X cA own cc nL ret R (wm am cA (mMo_enter s key x)) 0 0 (pc + 3) L (st)) : xs X cA own cc nL ret R (wm am cA s) 0 0 pc L (.int x :: .int key :: .ref (am 0) :: st) :=
  xs_call 0 (c_Mo_enter am cA s key x hz he) rfl rfl d hw hR rfl rfl rfl hst ⟨Nat.zero_le _, Nat.zero_le _⟩ kk
abbrev R_Mo_put : Room := { frames := 3, cells := 0, slots := 0, locals := 68 }
set_option maxRecDepth 100000 in
theorem kw_Mo_Mo_full : xwV RX4 60 yX4_full cX4_full 2 (some .boolean) 1 := ⟨⟨xt_of (List.mem_of_getElem? (i := 606) rfl) rfl, xt_of (by decide +kernel) rfl, xt_of (by decide +kernel) rfl, by decide +kernel⟩, xt_of (by decide +kernel) rfl, xt_of (by decide +kernel) rfl⟩
set_option maxRecDepth 100000 in
theorem kw_Mo_Mo_fail : xwV RX4 29 yX4_fail cX4_fail 2 (some .int) 1 := ⟨⟨xt_of (List.mem_of_getElem? (i := 598) rfl) rfl, xt_of (by decide +kernel) rfl, xt_of (by decide +kernel) rfl, by decide +kernel⟩, xt_of (by decide +kernel) rfl, xt_of (by decide +kernel) rfl⟩
set_option maxRecDepth 100000 in
theorem kw_Mo_Mo_enter : xwV RX4 66 yX4_enter cX4_enter 4 none 2 := ⟨⟨xt_of (List.mem_of_getElem? (i := 615) rfl) rfl, xt_of (by decide +kernel) rfl, xt_of (by decide +kernel) rfl, by decide +kernel⟩, xt_of (by decide +kernel) rfl, xt_of (by decide +kernel) rfl⟩
set_option maxHeartbeats 4000000 in
set_option maxRecDepth 100000 in
theorem c_Mo_put (am : Nat → Nat) (cA : ClassId) (s : zM) (key : Int32) (x : Int32) (hz : s.2.2.2 ≤ 2000) (he : mMo_full (y1 s 4 0 0) key = false → entOk (y1 s 4 0 0) key) : xct cA yX4_put cX4_put 6 (some .long) R_Mo_put [.ref (am 0), .int key, .int x] (wm am cA s) (some (.long ((mMo_put s key x).1))) (wm am cA ((mMo_put s key x).2)) := by
  refine xct_of (own := RX4) (by decide) rfl (Nat.le_of_ble_eq_true rfl) (fun X hX => ?_)
  show xs X cA RX4 cX4_put 6 (some .long) R_Mo_put (wm am cA s) 0 0 0 [(0, .ref (am 0)), (1, .int key), (2, .int x)] []
  refine xs_aload_n 0 dX4_put_0 rfl ?_
  refine xs_iconst (v := 0) dX4_put_1 (by decide) ?_
  refine p_Mo_failed dX4_put_2 ?_
  refine xs_aload_n 0 dX4_put_5 rfl ?_
  refine xs_iload_n 1 dX4_put_6 rfl ?_
  refine k_Mo_full dX4_put_7 kw_Mo_Mo_full (by decide) (Nat.le_of_ble_eq_true rfl) hz ?_
  refine xs_bif_eq (t := 20) dX4_put_10 (by decide) (fun c10 => ?_) (fun c10 => ?_)
  · refine xs_aload_n 0 dX4_put_20 rfl ?_
    refine xs_iload_n 1 dX4_put_21 rfl ?_
    refine k_Mo_at1 dX4_put_22 kw_Mo_Mo_at1 (by decide) (Nat.le_of_ble_eq_true rfl) hz ?_
    refine xs_istore_n (L' := [(3, _), (0, _), (1, _), (2, _)]) dX4_put_25 (by decide) rfl ?_
    refine xs_iload_n 0 dX4_put_26 rfl ?_
    refine xs_oif_ge (t := 36) dX4_put_27 (by decide) (fun _ h => Nat.lt_of_lt_of_le (at1_lt h) (Nat.le_trans hz (by decide))) (fun j27 c27 => ?_) (fun c27 => ?_)
    · simp only [c27, zo]
      refine xs_aload_n 1 dX4_put_36 rfl ?_
      refine g_Mo_numbers dX4_put_37 ?_
      refine xs_iload_n 0 dX4_put_40 rfl ?_
      refine aln_M1 dX4_put_41 (Nat.lt_of_lt_of_le (at1_lt c27) hz) ?_
      refine xs_i2l dX4_put_42 ?_
      refine xs_lstore (L' := [(4, _), (3, _), (0, _), (1, _), (2, _)]) dX4_put_43 (by decide) rfl ?_
      refine xs_aload_n 2 dX4_put_45 rfl ?_
      refine xs_iload_n 3 dX4_put_46 rfl ?_
      refine xs_iload_n 4 dX4_put_47 rfl ?_
      refine k_Mo_enter dX4_put_48 kw_Mo_Mo_enter (by decide) (Nat.le_of_ble_eq_true rfl) hz (he c10) ?_
      refine xs_lload 0 dX4_put_51 rfl ?_
      exact xs_lret hX rfl dX4_put_53 (by simp only [mMo_put, c10, ↓reduceIte, Bool.false_eq_true, c27]) (by simp only [mMo_put, c10, ↓reduceIte, Bool.false_eq_true, c27])
    · refine xs_ldc2 (v := 4294967296) dX4_put_30 (xt_of (by decide +kernel) rfl) ?_
      refine xs_goto (t := 43) dX4_put_33 (by decide) ?_
      refine xs_lstore (L' := [(4, _), (3, _), (0, _), (1, _), (2, _)]) dX4_put_43 (by decide) rfl ?_
      refine xs_aload_n 2 dX4_put_45 rfl ?_
      refine xs_iload_n 3 dX4_put_46 rfl ?_
      refine xs_iload_n 4 dX4_put_47 rfl ?_
      refine k_Mo_enter dX4_put_48 kw_Mo_Mo_enter (by decide) (Nat.le_of_ble_eq_true rfl) hz (he c10) ?_
      refine xs_lload 0 dX4_put_51 rfl ?_
      exact xs_lret hX rfl dX4_put_53 (by simp only [mMo_put, c10, ↓reduceIte, Bool.false_eq_true, c27]) (by simp only [mMo_put, c10, ↓reduceIte, Bool.false_eq_true, c27])
  · refine xs_aload_n 0 dX4_put_13 rfl ?_
    refine xs_iconst (v := 1) dX4_put_14 (by decide) ?_
    refine k_Mo_fail dX4_put_15 kw_Mo_Mo_fail (by decide) (Nat.le_of_ble_eq_true rfl) ?_
    refine xs_i2l dX4_put_18 ?_
    exact xs_lret hX rfl dX4_put_19 (by simp only [mMo_put, c10, ↓reduceIte, Bool.false_eq_true]) (by simp only [mMo_put, c10, ↓reduceIte, Bool.false_eq_true])
theorem k_Mo_put {X : xz_X} {cA : ClassId} {own : String} {am : Nat → Nat} {cc : ByteArray} {nL : Nat} {ret : Option FieldType} {R : Room} {s : zM} {pc ix : Nat} {L : List (Nat × Value)} {st : List Value} {key : Int32} {x : Int32} (d : decode cc pc = .ok (.invokevirtual ix, 3)) (hw : xwV own ix yX4_put cX4_put 6 (some .long) 2) (hR : xroom R_Mo_put 6 R) (hst : (st.map fun v => v.category).sum ≤ 8) (hz : s.2.2.2 ≤ 2000) (he : mMo_full (y1 s 4 0 0) key = false → entOk (y1 s 4 0 0) key) (kk : xs X cA own cc nL ret R (wm am cA ((mMo_put s key x).2)) 0 0 (pc + 3) L (.long ((mMo_put s key x).1) :: st)) : xs X cA own cc nL ret R (wm am cA s) 0 0 pc L (.int x :: .int key :: .ref (am 0) :: st) :=
  xs_call 0 (c_Mo_put am cA s key x hz he) rfl rfl d hw hR rfl rfl rfl hst ⟨Nat.zero_le _, Nat.zero_le _⟩ kk
abbrev R_Mo_find : Room := { frames := 2, cells := 0, slots := 0, locals := 45 }
set_option maxHeartbeats 4000000 in
set_option maxRecDepth 100000 in
theorem c_Mo_find (am : Nat → Nat) (cA : ClassId) (s : zM) (key : Int32) (tk : Bool) (hz : s.2.2.2 ≤ 2000) : xct cA yX4_find cX4_find 5 (some .int) R_Mo_find [.ref (am 0), .int key, .int (zb tk)] (wm am cA s) (some (.int ((mMo_find s key tk).1))) (wm am cA ((mMo_find s key tk).2)) := by
  refine xct_of (own := RX4) (by decide) rfl (Nat.le_of_ble_eq_true rfl) (fun X hX => ?_)
  show xs X cA RX4 cX4_find 5 (some .int) R_Mo_find (wm am cA s) 0 0 0 [(0, .ref (am 0)), (1, .int key), (2, .int (zb tk))] []
  refine xs_aload_n 0 dX4_find_0 rfl ?_
  refine xs_iconst (v := 0) dX4_find_1 (by decide) ?_
  refine p_Mo_failed dX4_find_2 ?_
  refine xs_aload_n 0 dX4_find_5 rfl ?_
  refine xs_iload_n 1 dX4_find_6 rfl ?_
  refine k_Mo_at1 dX4_find_7 kw_Mo_Mo_at1 (by decide) (Nat.le_of_ble_eq_true rfl) hz ?_
  refine xs_istore_n (L' := [(3, _), (0, _), (1, _), (2, _)]) dX4_find_10 (by decide) rfl ?_
  refine xs_iload_n 0 dX4_find_11 rfl ?_
  refine xs_oif_ge (t := 21) dX4_find_12 (by decide) (fun _ h => Nat.lt_of_lt_of_le (at1_lt h) (Nat.le_trans hz (by decide))) (fun j12 c12 => ?_) (fun c12 => ?_)
  · simp only [c12, zo]
    refine xs_aload_n 1 dX4_find_21 rfl ?_
    refine g_Mo_numbers dX4_find_22 ?_
    refine xs_iload_n 0 dX4_find_25 rfl ?_
    refine aln_M1 dX4_find_26 (Nat.lt_of_lt_of_le (at1_lt c12) hz) ?_
    refine xs_istore (L' := [(4, _), (3, _), (0, _), (1, _), (2, _)]) dX4_find_27 (by decide) rfl ?_
    refine xs_iload_n 4 dX4_find_29 rfl ?_
    refine xs_bif_eq (t := 41) dX4_find_30 (by decide) (fun c30 => ?_) (fun c30 => ?_)
    · refine xs_aload_n 2 dX4_find_41 rfl ?_
      refine g_Mo_mode dX4_find_42 ?_
      refine xs_iconst (v := 2) dX4_find_45 (by decide) ?_
      refine xs_icmp_ne (t := 54) dX4_find_46 (by decide) (fun c46 => ?_) (fun c46 => ?_)
      · refine xs_iload 0 dX4_find_54 rfl ?_
        exact xs_iret hX rfl dX4_find_56 (by simp only [mMo_find, c12, c30, ↓reduceIte, Bool.false_eq_true, if_neg c46]) (by simp only [mMo_find, c12, c30, ↓reduceIte, Bool.false_eq_true, if_neg c46])
      · refine xs_aload_n 2 dX4_find_49 rfl ?_
        refine xs_iload_n 1 dX4_find_50 rfl ?_
        refine k_Mo_touch dX4_find_51 kw_Mo_Mo_touch (by decide) (Nat.le_of_ble_eq_true rfl) hz (at1_lt c12) ?_
        refine xs_iload 0 dX4_find_54 rfl ?_
        exact xs_iret hX rfl dX4_find_56 (by simp only [mMo_find, c12, c30, ↓reduceIte, Bool.false_eq_true, if_pos c46]) (by simp only [mMo_find, c12, c30, ↓reduceIte, Bool.false_eq_true, if_pos c46])
    · refine xs_aload_n 2 dX4_find_33 rfl ?_
      refine xs_iload_n 1 dX4_find_34 rfl ?_
      refine k_Mo_remove dX4_find_35 kw_Mo_Mo_remove (by decide) (Nat.le_of_ble_eq_true rfl) hz (at1_lt c12) ?_
      refine xs_goto (t := 54) dX4_find_38 (by decide) ?_
      refine xs_iload 0 dX4_find_54 rfl ?_
      exact xs_iret hX rfl dX4_find_56 (by simp only [mMo_find, c12, c30, ↓reduceIte, Bool.false_eq_true]) (by simp only [mMo_find, c12, c30, ↓reduceIte, Bool.false_eq_true])
  · refine xs_aload_n 1 dX4_find_15 rfl ?_
    refine xs_iconst (v := 1) dX4_find_16 (by decide) ?_
    refine k_Mo_fail dX4_find_17 kw_Mo_Mo_fail (by decide) (Nat.le_of_ble_eq_true rfl) ?_
    exact xs_iret hX rfl dX4_find_20 (by simp only [mMo_find, c12]) (by simp only [mMo_find, c12])
theorem k_Mo_find {X : xz_X} {cA : ClassId} {own : String} {am : Nat → Nat} {cc : ByteArray} {nL : Nat} {ret : Option FieldType} {R : Room} {s : zM} {pc ix : Nat} {L : List (Nat × Value)} {st : List Value} {key : Int32} {tk : Bool} (d : decode cc pc = .ok (.invokevirtual ix, 3)) (hw : xwV own ix yX4_find cX4_find 5 (some .int) 2) (hR : xroom R_Mo_find 5 R) (hst : (st.map fun v => v.category).sum ≤ 8) (hz : s.2.2.2 ≤ 2000) (kk : xs X cA own cc nL ret R (wm am cA ((mMo_find s key tk).2)) 0 0 (pc + 3) L (.int ((mMo_find s key tk).1) :: st)) : xs X cA own cc nL ret R (wm am cA s) 0 0 pc L (.int (zb tk) :: .int key :: .ref (am 0) :: st) :=
  xs_call 0 (c_Mo_find am cA s key tk hz) rfl rfl d hw hR rfl rfl rfl hst ⟨Nat.zero_le _, Nat.zero_le _⟩ kk
abbrev R_Mo_has : Room := { frames := 1, cells := 0, slots := 0, locals := 22 }
set_option maxHeartbeats 4000000 in
set_option maxRecDepth 100000 in
theorem c_Mo_has (am : Nat → Nat) (cA : ClassId) (s : zM) (key : Int32) (hz : s.2.2.2 ≤ 2000) : xct cA yX4_has cX4_has 2 (some .boolean) R_Mo_has [.ref (am 0), .int key] (wm am cA s) (some (.int (zb ((mMo_at1 (y1 s 4 0 0) key).isSome)))) (wm am cA (y1 s 4 0 0)) := by
  refine xct_of (own := RX4) (by decide) rfl (Nat.le_of_ble_eq_true rfl) (fun X hX => ?_)
  show xs X cA RX4 cX4_has 2 (some .boolean) R_Mo_has (wm am cA s) 0 0 0 [(0, .ref (am 0)), (1, .int key)] []
  refine xs_aload_n 0 dX4_has_0 rfl ?_
  refine xs_iconst (v := 0) dX4_has_1 (by decide) ?_
  refine p_Mo_failed dX4_has_2 ?_
  refine xs_aload_n 0 dX4_has_5 rfl ?_
  refine xs_iload_n 1 dX4_has_6 rfl ?_
  refine k_Mo_at1 dX4_has_7 kw_Mo_Mo_at1 (by decide) (Nat.le_of_ble_eq_true rfl) hz ?_
  refine xs_oif_lt (t := 17) dX4_has_10 (by decide) (fun _ h => Nat.lt_of_lt_of_le (at1_lt h) (Nat.le_trans hz (by decide))) (fun c10 => ?_) (fun j10 c10 => ?_)
  · refine xs_iconst (v := zb false) dX4_has_17 rfl ?_
    exact xs_zret hX rfl dX4_has_18 (by simp [c10]) rfl
  · refine xs_iconst (v := zb true) dX4_has_13 rfl ?_
    refine xs_goto (t := 18) dX4_has_14 (by decide) ?_
    exact xs_zret hX rfl dX4_has_18 (by simp [c10]) rfl
theorem k_Mo_has {X : xz_X} {cA : ClassId} {own : String} {am : Nat → Nat} {cc : ByteArray} {nL : Nat} {ret : Option FieldType} {R : Room} {s : zM} {pc ix : Nat} {L : List (Nat × Value)} {st : List Value} {key : Int32} (d : decode cc pc = .ok (.invokevirtual ix, 3)) (hw : xwV own ix yX4_has cX4_has 2 (some .boolean) 1) (hR : xroom R_Mo_has 2 R) (hst : (st.map fun v => v.category).sum ≤ 8) (hz : s.2.2.2 ≤ 2000) (kk : xs X cA own cc nL ret R (wm am cA (y1 s 4 0 0)) 0 0 (pc + 3) L (.int (zb ((mMo_at1 (y1 s 4 0 0) key).isSome)) :: st)) : xs X cA own cc nL ret R (wm am cA s) 0 0 pc L (.int key :: .ref (am 0) :: st) :=
  xs_call 0 (c_Mo_has am cA s key hz) rfl rfl d hw hR rfl rfl rfl hst ⟨Nat.zero_le _, Nat.zero_le _⟩ kk
abbrev R_Mo_fill : Room := { frames := 3, cells := 0, slots := 0, locals := 68 }
set_option maxHeartbeats 4000000 in
set_option maxRecDepth 100000 in
theorem t_Mo_fill {X : xz_X} {am : Nat → Nat} {cA : ClassId} {x step nn : Int32} : ∀ (m i : Nat) (s : zM), fillOk x step m i s → i + m = nn.toNatClampNeg → xfin X cA 0 0 (some (.int (nI (mMo_fillL x step m i s).2.2.2))) (wm am cA (mMo_fillL x step m i s)) → xs X cA RX4 cX4_fill 5 (some .int) R_Mo_fill (wm am cA s) 0 0 25 [(4, .int (nI i)), (3, .int nn), (2, .int step), (1, .int x), (0, .ref (am 0))] [] := by
  intro m
  induction m with
  | zero =>
    intro i s hf hi hX
    refine xs_iload 0 dX4_fill_25 rfl ?_
    refine xs_iload_n 1 dX4_fill_27 rfl ?_
    refine xs_icmp_ge (t := 62) dX4_fill_28 (by decide) (fun c28 => ?_) (fun c28 => ?_)
    · refine xs_aload_n 4 dX4_fill_62 rfl ?_
      refine g_Mo_size dX4_fill_63 ?_
      exact xs_iret hX rfl dX4_fill_66 rfl rfl
    · exact absurd (cnt_le (by omega) (by have := cnt_lt31 nn; omega)) c28
  | succ m ih =>
    intro i s hf hi hX
    refine xs_iload 0 dX4_fill_25 rfl ?_
    refine xs_iload_n 1 dX4_fill_27 rfl ?_
    refine xs_icmp_ge (t := 62) dX4_fill_28 (by decide) (fun c28 => ?_) (fun c28 => ?_)
    · exact absurd c28 (cnt_nle (by omega))
    · refine xs_aload_n 4 dX4_fill_31 rfl ?_
      refine xs_iload_n 3 dX4_fill_32 rfl ?_
      refine xs_iload 0 dX4_fill_33 rfl ?_
      refine xs_iload_n 2 dX4_fill_35 rfl ?_
      refine xs_imul dX4_fill_36 ?_
      refine xs_iadd dX4_fill_37 ?_
      refine k_Mo_full dX4_fill_38 kw_Mo_Mo_full (by decide) (Nat.le_of_ble_eq_true rfl) hf.1 ?_
      refine xs_bif_ne (t := 62) dX4_fill_41 (by decide) (fun c41 => ?_) (fun c41 => ?_)
      · refine xs_aload_n 4 dX4_fill_62 rfl ?_
        refine g_Mo_size dX4_fill_63 ?_
        exact xs_iret hX rfl dX4_fill_66 (by simp only [mMo_fillL, if_neg c28, c41, ↓reduceIte, Bool.false_eq_true]) (by simp only [mMo_fillL, if_neg c28, c41, ↓reduceIte, Bool.false_eq_true])
      · refine xs_aload_n 4 dX4_fill_44 rfl ?_
        refine xs_iload_n 3 dX4_fill_45 rfl ?_
        refine xs_iload 0 dX4_fill_46 rfl ?_
        refine xs_iload_n 2 dX4_fill_48 rfl ?_
        refine xs_imul dX4_fill_49 ?_
        refine xs_iadd dX4_fill_50 ?_
        refine xs_iload 0 dX4_fill_51 rfl ?_
        refine k_Mo_enter dX4_fill_53 kw_Mo_Mo_enter (by decide) (Nat.le_of_ble_eq_true rfl) hf.1 (hf.2 c41).1 ?_
        refine xs_iinc_n (L' := [(4, _), (3, _), (2, _), (1, _), (0, _)]) 0 dX4_fill_56 rfl (by decide) rfl ?_
        refine xs_goto (t := 25) dX4_fill_59 (by decide) ?_
        refine xs_sub (L' := [(4, _), (3, _), (2, _), (1, _), (0, _)]) [0, 1, 2, 3, 4] rfl ?_
        exact ih _ _ (hf.2 c41).2 (by omega) (by simp only [mMo_fillL, if_neg c28, c41, ↓reduceIte, Bool.false_eq_true] at hX; exact hX)
set_option maxHeartbeats 4000000 in
set_option maxRecDepth 100000 in
theorem c_Mo_fill (am : Nat → Nat) (cA : ClassId) (s : zM) (x : Int32) (step : Int32) (nn : Int32) (hf : fillOk x step nn.toNatClampNeg 0 (y1 s 4 0 0)) : xct cA yX4_fill cX4_fill 5 (some .int) R_Mo_fill [.ref (am 0), .int x, .int step, .int nn] (wm am cA s) (some (.int ((mMo_fill s x step nn).1))) (wm am cA ((mMo_fill s x step nn).2)) := by
  refine xct_of (own := RX4) (by decide) rfl (Nat.le_of_ble_eq_true rfl) (fun X hX => ?_)
  show xs X cA RX4 cX4_fill 5 (some .int) R_Mo_fill (wm am cA s) 0 0 0 [(0, .ref (am 0)), (1, .int x), (2, .int step), (3, .int nn)] []
  refine xs_aload_n 0 dX4_fill_0 rfl ?_
  refine xs_iconst (v := 0) dX4_fill_1 (by decide) ?_
  refine p_Mo_failed dX4_fill_2 ?_
  refine xs_iload_n 3 dX4_fill_5 rfl ?_
  refine xs_if_lt (t := 16) dX4_fill_6 (by decide) (fun c6 => ?_) (fun c6 => ?_)
  · refine xs_aload_n 0 dX4_fill_16 rfl ?_
    refine xs_iconst (v := 1) dX4_fill_17 (by decide) ?_
    refine k_Mo_fail dX4_fill_18 kw_Mo_Mo_fail (by decide) (Nat.le_of_ble_eq_true rfl) ?_
    exact xs_iret hX rfl dX4_fill_21 (by simp only [mMo_fill, if_pos c6]) (by simp only [mMo_fill, if_pos c6])
  · refine xs_iload_n 3 dX4_fill_9 rfl ?_
    refine xs_sipush (v := 2000) dX4_fill_10 (by decide) ?_
    refine xs_icmp_le (t := 22) dX4_fill_13 (by decide) (fun c13 => ?_) (fun c13 => ?_)
    · refine xs_iconst (v := nI 0) dX4_fill_22 rfl ?_
      refine xs_istore (L' := [(4, _), (0, _), (1, _), (2, _), (3, _)]) dX4_fill_23 (by decide) rfl ?_
      refine xs_sub (L' := [(4, _), (3, _), (2, _), (1, _), (0, _)]) [0, 4, 3, 2, 1] rfl ?_
      exact t_Mo_fill nn.toNatClampNeg 0 _ hf (Nat.zero_add _) (by simp only [mMo_fill, if_neg c6, if_pos c13] at hX; exact hX)
    · refine xs_aload_n 0 dX4_fill_16 rfl ?_
      refine xs_iconst (v := 1) dX4_fill_17 (by decide) ?_
      refine k_Mo_fail dX4_fill_18 kw_Mo_Mo_fail (by decide) (Nat.le_of_ble_eq_true rfl) ?_
      exact xs_iret hX rfl dX4_fill_21 (by simp only [mMo_fill, if_neg c6, if_neg c13]) (by simp only [mMo_fill, if_neg c6, if_neg c13])
theorem k_Mo_fill {X : xz_X} {cA : ClassId} {own : String} {am : Nat → Nat} {cc : ByteArray} {nL : Nat} {ret : Option FieldType} {R : Room} {s : zM} {pc ix : Nat} {L : List (Nat × Value)} {st : List Value} {x : Int32} {step : Int32} {nn : Int32} (d : decode cc pc = .ok (.invokevirtual ix, 3)) (hw : xwV own ix yX4_fill cX4_fill 5 (some .int) 3) (hR : xroom R_Mo_fill 5 R) (hst : (st.map fun v => v.category).sum ≤ 8) (hf : fillOk x step nn.toNatClampNeg 0 (y1 s 4 0 0)) (kk : xs X cA own cc nL ret R (wm am cA ((mMo_fill s x step nn).2)) 0 0 (pc + 3) L (.int ((mMo_fill s x step nn).1) :: st)) : xs X cA own cc nL ret R (wm am cA s) 0 0 pc L (.int nn :: .int step :: .int x :: .ref (am 0) :: st) :=
  xs_call 0 (c_Mo_fill am cA s x step nn hf) rfl rfl d hw hR rfl rfl rfl hst ⟨Nat.zero_le _, Nat.zero_le _⟩ kk
abbrev R_Mo_lay : Room := { frames := 1, cells := 0, slots := 0, locals := 22 }
set_option maxRecDepth 100000 in
theorem kw_Mo_Mo_place : xwV RX4 69 yX4_place cX4_place 3 (some .int) 1 := ⟨⟨xt_of (List.mem_of_getElem? (i := 651) rfl) rfl, xt_of (by decide +kernel) rfl, xt_of (by decide +kernel) rfl, by decide +kernel⟩, xt_of (by decide +kernel) rfl, xt_of (by decide +kernel) rfl⟩
set_option maxHeartbeats 4000000 in
set_option maxRecDepth 100000 in
theorem t_Mo_layI {X : xz_X} {am : Nat → Nat} {cA : ClassId} : ∀ (n i : Nat) (s : zM), i + n = s.2.2.2 → s.2.2.2 ≤ 2000 → xfin X cA 0 0 none (wm am cA (mMo_layI n i s)) → xs X cA RX4 cX4_lay 4 none R_Mo_lay (wm am cA s) 0 0 9 [(1, .int (nI i)), (0, .ref (am 0))] [] := by
  intro n
  induction n with
  | zero =>
    intro i s hi hz hX
    refine xs_iload_n 0 dX4_lay_9 rfl ?_
    refine xs_aload_n 1 dX4_lay_10 rfl ?_
    refine g_Mo_size dX4_lay_11 ?_
    refine xs_icmp_ge (t := 30) dX4_lay_14 (by decide) (fun c14 => ?_) (fun c14 => ?_)
    · exact xs_vret hX rfl dX4_lay_30 rfl
    · exact absurd (kn_le (by omega) (by omega)) c14
  | succ n ih =>
    intro i s hi hz hX
    refine xs_iload_n 0 dX4_lay_9 rfl ?_
    refine xs_aload_n 1 dX4_lay_10 rfl ?_
    refine g_Mo_size dX4_lay_11 ?_
    refine xs_icmp_ge (t := 30) dX4_lay_14 (by decide) (fun c14 => ?_) (fun c14 => ?_)
    · exact absurd c14 (kn_nle (by omega) (by omega))
    · refine xs_aload_n 1 dX4_lay_17 rfl ?_
      refine g_Mo_order dX4_lay_18 ?_
      refine xs_iload_n 0 dX4_lay_21 rfl ?_
      refine xs_iload_n 0 dX4_lay_22 rfl ?_
      refine xs_top (zq_of (by omega)).symm ?_
      refine asn_O dX4_lay_23 (by omega) ?_
      refine xs_iinc_n (L' := [(1, _), (0, _)]) 0 dX4_lay_24 rfl (by decide) rfl ?_
      refine xs_goto (t := 9) dX4_lay_27 (by decide) ?_
      refine xs_sub (L' := [(1, _), (0, _)]) [0, 1] rfl ?_
      exact ih _ _ (by show i + 1 + n = s.2.2.2; omega) hz hX
set_option maxHeartbeats 4000000 in
set_option maxRecDepth 100000 in
theorem t_Mo_lay3 {X : xz_X} {am : Nat → Nat} {cA : ClassId} : ∀ (n i : Nat) (s : zM), i + n = s.2.2.2 → s.2.2.2 ≤ 2000 → mrok s → laySf n i s → xfin X cA 0 0 none (wm am cA (mMo_lay3 n i s)) → xs X cA RX4 cX4_lay 4 none R_Mo_lay (wm am cA s) 0 0 127 [(2, .int (nI i)), (0, .ref (am 0))] [] := by
  intro n
  induction n with
  | zero =>
    intro i s hi hz hr hl hX
    refine xs_iload_n 0 dX4_lay_127 rfl ?_
    refine xs_aload_n 1 dX4_lay_128 rfl ?_
    refine g_Mo_size dX4_lay_129 ?_
    refine xs_icmp_ge (t := 167) dX4_lay_132 (by decide) (fun c132 => ?_) (fun c132 => ?_)
    · exact xs_vret hX rfl dX4_lay_167 rfl
    · exact absurd (kn_le (by omega) (by omega)) c132
  | succ n ih =>
    intro i s hi hz hr hl hX
    refine xs_iload_n 0 dX4_lay_127 rfl ?_
    refine xs_aload_n 1 dX4_lay_128 rfl ?_
    refine g_Mo_size dX4_lay_129 ?_
    refine xs_icmp_ge (t := 167) dX4_lay_132 (by decide) (fun c132 => ?_) (fun c132 => ?_)
    · exact absurd c132 (kn_nle (by omega) (by omega))
    · refine xs_aload_n 1 dX4_lay_135 rfl ?_
      refine g_Mo_order dX4_lay_136 ?_
      refine xs_aload_n 1 dX4_lay_139 rfl ?_
      refine g_Mo_heads dX4_lay_140 ?_
      refine xs_aload_n 1 dX4_lay_143 rfl ?_
      refine xs_aload_n 1 dX4_lay_144 rfl ?_
      refine g_Mo_keys dX4_lay_145 ?_
      refine xs_iload_n 0 dX4_lay_148 rfl ?_
      refine aln_M0 dX4_lay_149 (by omega) ?_
      refine k_Mo_place dX4_lay_150 kw_Mo_Mo_place (by decide) (Nat.le_of_ble_eq_true rfl) hr ?_
      refine xs_dup2 dX4_lay_153 rfl rfl ?_
      refine al_H dX4_lay_154 ?_
      refine xs_dup_x2 dX4_lay_155 rfl rfl rfl ?_
      refine xs_iconst (v := 1) dX4_lay_156 (by decide) ?_
      refine xs_iadd dX4_lay_157 ?_
      refine xs_top (nI_1 _) ?_
      refine as_H dX4_lay_158 ?_
      refine xs_iload_n 0 dX4_lay_159 rfl ?_
      refine xs_top (zq_of (by omega)).symm ?_
      refine asn_O dX4_lay_160 hl.1 ?_
      refine xs_iinc_n (L' := [(2, _), (0, _)]) 0 dX4_lay_161 rfl (by decide) rfl ?_
      refine xs_goto (t := 127) dX4_lay_164 (by decide) ?_
      refine xs_sub (L' := [(2, _), (0, _)]) [0, 1] rfl ?_
      exact ih _ _ (by show i + 1 + n = s.2.2.2; omega) hz hr hl.2 hX
set_option maxHeartbeats 4000000 in
set_option maxRecDepth 100000 in
theorem t_Mo_lay2 {X : xz_X} {am : Nat → Nat} {cA : ClassId} : ∀ (n p sum : Nat) (s : zM), p + n = (s.1 4 4).toNatClampNeg → s.2.2.2 ≤ 2000 → mrok s → laySf (mMo_lay2 n p sum s).2.2.2 0 (mMo_lay2 n p sum s) → xfin X cA 0 0 none (wm am cA (mMo_F3 (mMo_lay2 n p sum s))) → xs X cA RX4 cX4_lay 4 none R_Mo_lay (wm am cA s) 0 0 93 [(2, .int (nI p)), (1, .int (nI sum)), (0, .ref (am 0))] [] := by
  intro n
  induction n with
  | zero =>
    intro p sum s hi hz hr hl hX
    refine xs_iload_n 0 dX4_lay_93 rfl ?_
    refine xs_aload_n 2 dX4_lay_94 rfl ?_
    refine g_Mo_room dX4_lay_95 ?_
    refine xs_icmp_ge (t := 125) dX4_lay_98 (by decide) (fun c98 => ?_) (fun c98 => ?_)
    · refine xs_iconst (v := nI 0) dX4_lay_125 rfl ?_
      refine xs_istore_n (L' := [(2, _), (1, _), (0, _)]) dX4_lay_126 (by decide) rfl ?_
      refine xs_sub (L' := [(2, _), (0, _)]) [0, 2] rfl ?_
      exact t_Mo_lay3 s.2.2.2 0 s (Nat.zero_add _) hz hr hl hX
    · exact absurd (cnt_le (by omega) (by have := mrok_le hr; omega)) c98
  | succ n ih =>
    intro p sum s hi hz hr hl hX
    refine xs_iload_n 0 dX4_lay_93 rfl ?_
    refine xs_aload_n 2 dX4_lay_94 rfl ?_
    refine g_Mo_room dX4_lay_95 ?_
    refine xs_icmp_ge (t := 125) dX4_lay_98 (by decide) (fun c98 => ?_) (fun c98 => ?_)
    · exact absurd c98 (cnt_nle (by omega))
    · refine xs_aload_n 2 dX4_lay_101 rfl ?_
      refine g_Mo_heads dX4_lay_102 ?_
      refine xs_iload_n 0 dX4_lay_105 rfl ?_
      refine aln_H dX4_lay_106 (by have := mrok_le hr; omega) ?_
      refine xs_istore_n (L' := [(3, _), (2, _), (1, _), (0, _)]) dX4_lay_107 (by decide) rfl ?_
      refine xs_aload_n 3 dX4_lay_108 rfl ?_
      refine g_Mo_heads dX4_lay_109 ?_
      refine xs_iload_n 1 dX4_lay_112 rfl ?_
      refine xs_iload_n 2 dX4_lay_113 rfl ?_
      refine asn_H dX4_lay_114 (by have := mrok_le hr; omega) ?_
      refine xs_iload_n 2 dX4_lay_115 rfl ?_
      refine xs_iload_n 0 dX4_lay_116 rfl ?_
      refine xs_iadd dX4_lay_117 ?_
      refine xs_top (nI_add _ _) ?_
      refine xs_istore_n (L' := [(1, _), (3, _), (2, _), (0, _)]) dX4_lay_118 (by decide) rfl ?_
      refine xs_iinc_n (L' := [(2, _), (1, _), (3, _), (0, _)]) 2 dX4_lay_119 rfl (by decide) rfl ?_
      refine xs_goto (t := 93) dX4_lay_122 (by decide) ?_
      refine xs_sub (L' := [(2, _), (1, _), (0, _)]) [0, 1, 3] rfl ?_
      exact ih _ _ _ (by show p + 1 + n = (s.1 4 4).toNatClampNeg; omega) hz hr hl hX
set_option maxHeartbeats 4000000 in
set_option maxRecDepth 100000 in
theorem t_Mo_lay1 {X : xz_X} {am : Nat → Nat} {cA : ClassId} : ∀ (n i : Nat) (s : zM), i + n = s.2.2.2 → s.2.2.2 ≤ 2000 → mrok s → laySf (mMo_F2 (mMo_lay1 n i s)).2.2.2 0 (mMo_F2 (mMo_lay1 n i s)) → xfin X cA 0 0 none (wm am cA (mMo_F3 (mMo_F2 (mMo_lay1 n i s)))) → xs X cA RX4 cX4_lay 4 none R_Mo_lay (wm am cA s) 0 0 56 [(1, .int (nI i)), (0, .ref (am 0))] [] := by
  intro n
  induction n with
  | zero =>
    intro i s hi hz hr hl hX
    refine xs_iload_n 0 dX4_lay_56 rfl ?_
    refine xs_aload_n 1 dX4_lay_57 rfl ?_
    refine g_Mo_size dX4_lay_58 ?_
    refine xs_icmp_ge (t := 89) dX4_lay_61 (by decide) (fun c61 => ?_) (fun c61 => ?_)
    · refine xs_iconst (v := nI 0) dX4_lay_89 rfl ?_
      refine xs_istore_n (L' := [(1, _), (0, _)]) dX4_lay_90 (by decide) rfl ?_
      refine xs_iconst (v := nI 0) dX4_lay_91 rfl ?_
      refine xs_istore_n (L' := [(2, _), (1, _), (0, _)]) dX4_lay_92 (by decide) rfl ?_
      refine xs_sub (L' := [(2, _), (1, _), (0, _)]) [0, 1, 2] rfl ?_
      exact t_Mo_lay2 (s.1 4 4).toNatClampNeg 0 0 s (Nat.zero_add _) hz hr hl hX
    · exact absurd (kn_le (by omega) (by omega)) c61
  | succ n ih =>
    intro i s hi hz hr hl hX
    refine xs_iload_n 0 dX4_lay_56 rfl ?_
    refine xs_aload_n 1 dX4_lay_57 rfl ?_
    refine g_Mo_size dX4_lay_58 ?_
    refine xs_icmp_ge (t := 89) dX4_lay_61 (by decide) (fun c61 => ?_) (fun c61 => ?_)
    · exact absurd c61 (kn_nle (by omega) (by omega))
    · refine xs_aload_n 1 dX4_lay_64 rfl ?_
      refine g_Mo_heads dX4_lay_65 ?_
      refine xs_aload_n 1 dX4_lay_68 rfl ?_
      refine xs_aload_n 1 dX4_lay_69 rfl ?_
      refine g_Mo_keys dX4_lay_70 ?_
      refine xs_iload_n 0 dX4_lay_73 rfl ?_
      refine aln_M0 dX4_lay_74 (by omega) ?_
      refine k_Mo_place dX4_lay_75 kw_Mo_Mo_place (by decide) (Nat.le_of_ble_eq_true rfl) hr ?_
      refine xs_dup2 dX4_lay_78 rfl rfl ?_
      refine al_H dX4_lay_79 ?_
      refine xs_iconst (v := 1) dX4_lay_80 (by decide) ?_
      refine xs_iadd dX4_lay_81 ?_
      refine xs_top (nI_1 _) ?_
      refine as_H dX4_lay_82 ?_
      refine xs_iinc_n (L' := [(1, _), (0, _)]) 0 dX4_lay_83 rfl (by decide) rfl ?_
      refine xs_goto (t := 56) dX4_lay_86 (by decide) ?_
      refine xs_sub (L' := [(1, _), (0, _)]) [0, 1] rfl ?_
      exact ih _ _ (by show i + 1 + n = s.2.2.2; omega) hz hr hl hX
set_option maxHeartbeats 4000000 in
set_option maxRecDepth 100000 in
theorem t_Mo_lay0 {X : xz_X} {am : Nat → Nat} {cA : ClassId} : ∀ (n p : Nat) (s : zM), p + n = (s.1 4 4).toNatClampNeg → s.2.2.2 ≤ 2000 → mrok s → laySf (mMo_F1 (mMo_lay0 n p s)).2.2.2 0 (mMo_F1 (mMo_lay0 n p s)) → xfin X cA 0 0 none (wm am cA (mMo_F3 (mMo_F1 (mMo_lay0 n p s)))) → xs X cA RX4 cX4_lay 4 none R_Mo_lay (wm am cA s) 0 0 33 [(1, .int (nI p)), (0, .ref (am 0))] [] := by
  intro n
  induction n with
  | zero =>
    intro p s hi hz hr hl hX
    refine xs_iload_n 0 dX4_lay_33 rfl ?_
    refine xs_aload_n 1 dX4_lay_34 rfl ?_
    refine g_Mo_room dX4_lay_35 ?_
    refine xs_icmp_ge (t := 54) dX4_lay_38 (by decide) (fun c38 => ?_) (fun c38 => ?_)
    · refine xs_iconst (v := nI 0) dX4_lay_54 rfl ?_
      refine xs_istore_n (L' := [(1, _), (0, _)]) dX4_lay_55 (by decide) rfl ?_
      refine xs_sub (L' := [(1, _), (0, _)]) [0, 1] rfl ?_
      exact t_Mo_lay1 s.2.2.2 0 s (Nat.zero_add _) hz hr hl hX
    · exact absurd (cnt_le (by omega) (by have := mrok_le hr; omega)) c38
  | succ n ih =>
    intro p s hi hz hr hl hX
    refine xs_iload_n 0 dX4_lay_33 rfl ?_
    refine xs_aload_n 1 dX4_lay_34 rfl ?_
    refine g_Mo_room dX4_lay_35 ?_
    refine xs_icmp_ge (t := 54) dX4_lay_38 (by decide) (fun c38 => ?_) (fun c38 => ?_)
    · exact absurd c38 (cnt_nle (by omega))
    · refine xs_aload_n 1 dX4_lay_41 rfl ?_
      refine g_Mo_heads dX4_lay_42 ?_
      refine xs_iload_n 0 dX4_lay_45 rfl ?_
      refine xs_iconst (v := nI 0) dX4_lay_46 rfl ?_
      refine asn_H dX4_lay_47 (by have := mrok_le hr; omega) ?_
      refine xs_iinc_n (L' := [(1, _), (0, _)]) 0 dX4_lay_48 rfl (by decide) rfl ?_
      refine xs_goto (t := 33) dX4_lay_51 (by decide) ?_
      refine xs_sub (L' := [(1, _), (0, _)]) [0, 1] rfl ?_
      exact ih _ _ (by show p + 1 + n = (s.1 4 4).toNatClampNeg; omega) hz hr hl hX
set_option maxHeartbeats 4000000 in
set_option maxRecDepth 100000 in
theorem c_Mo_lay (am : Nat → Nat) (cA : ClassId) (s : zM) (hz : s.2.2.2 ≤ 2000) (hr : mrok s) (hl : layOk s) : xct cA yX4_lay cX4_lay 4 none R_Mo_lay [.ref (am 0)] (wm am cA s) none (wm am cA (mMo_lay s)) := by
  refine xct_of (own := RX4) (by decide) rfl (Nat.le_of_ble_eq_true rfl) (fun X hX => ?_)
  show xs X cA RX4 cX4_lay 4 none R_Mo_lay (wm am cA s) 0 0 0 [(0, .ref (am 0))] []
  refine xs_aload_n 0 dX4_lay_0 rfl ?_
  refine g_Mo_mode dX4_lay_1 ?_
  refine xs_if_le (t := 31) dX4_lay_4 (by decide) (fun c4 => ?_) (fun c4 => ?_)
  · refine xs_iconst (v := nI 0) dX4_lay_31 rfl ?_
    refine xs_istore_n (L' := [(1, _), (0, _)]) dX4_lay_32 (by decide) rfl ?_
    refine xs_sub (L' := [(1, _), (0, _)]) [0, 1] rfl ?_
    exact t_Mo_lay0 (s.1 4 4).toNatClampNeg 0 s (Nat.zero_add _) hz hr (hl c4) (by simp only [mMo_lay, if_pos c4] at hX; exact hX)
  · refine xs_iconst (v := nI 0) dX4_lay_7 rfl ?_
    refine xs_istore_n (L' := [(1, _), (0, _)]) dX4_lay_8 (by decide) rfl ?_
    refine xs_sub (L' := [(1, _), (0, _)]) [0, 1] rfl ?_
    exact t_Mo_layI s.2.2.2 0 _ (Nat.zero_add _) hz (by simp only [mMo_lay, if_neg c4] at hX; exact hX)
theorem k_Mo_lay {X : xz_X} {cA : ClassId} {own : String} {am : Nat → Nat} {cc : ByteArray} {nL : Nat} {ret : Option FieldType} {R : Room} {s : zM} {pc ix : Nat} {L : List (Nat × Value)} {st : List Value} (d : decode cc pc = .ok (.invokevirtual ix, 3)) (hw : xwV own ix yX4_lay cX4_lay 4 none 0) (hR : xroom R_Mo_lay 4 R) (hst : (st.map fun v => v.category).sum ≤ 8) (hz : s.2.2.2 ≤ 2000) (hr : mrok s) (hl : layOk s) (kk : xs X cA own cc nL ret R (wm am cA (mMo_lay s)) 0 0 (pc + 3) L (st)) : xs X cA own cc nL ret R (wm am cA s) 0 0 pc L (.ref (am 0) :: st) :=
  xs_call 0 (c_Mo_lay am cA s hz hr hl) rfl rfl d hw hR rfl rfl rfl hst ⟨Nat.zero_le _, Nat.zero_le _⟩ kk
abbrev R_Mo_at : Room := { frames := 2, cells := 0, slots := 0, locals := 45 }
set_option maxRecDepth 100000 in
theorem kw_Mo_Mo_lay : xwV RX4 72 yX4_lay cX4_lay 4 none 0 := ⟨⟨xt_of (List.mem_of_getElem? (i := 647) rfl) rfl, xt_of (by decide +kernel) rfl, xt_of (by decide +kernel) rfl, by decide +kernel⟩, xt_of (by decide +kernel) rfl, xt_of (by decide +kernel) rfl⟩
set_option maxHeartbeats 4000000 in
set_option maxRecDepth 100000 in
theorem c_Mo_at (am : Nat → Nat) (cA : ClassId) (s : zM) (i : Int32) (hz : s.2.2.2 ≤ 2000) (hr : mrok s) (hl : layOk (y1 s 4 0 0)) : xct cA yX4_at cX4_at 2 (some .int) R_Mo_at [.ref (am 0), .int i] (wm am cA s) (some (.int ((mMo_at s i).1))) (wm am cA ((mMo_at s i).2)) := by
  refine xct_of (own := RX4) (by decide) rfl (Nat.le_of_ble_eq_true rfl) (fun X hX => ?_)
  show xs X cA RX4 cX4_at 2 (some .int) R_Mo_at (wm am cA s) 0 0 0 [(0, .ref (am 0)), (1, .int i)] []
  refine xs_aload_n 0 dX4_at_0 rfl ?_
  refine xs_iconst (v := 0) dX4_at_1 (by decide) ?_
  refine p_Mo_failed dX4_at_2 ?_
  refine xs_iload_n 1 dX4_at_5 rfl ?_
  refine xs_if_lt (t := 17) dX4_at_6 (by decide) (fun c6 => ?_) (fun c6 => ?_)
  · refine xs_aload_n 0 dX4_at_17 rfl ?_
    refine xs_iconst (v := 1) dX4_at_18 (by decide) ?_
    refine k_Mo_fail dX4_at_19 kw_Mo_Mo_fail (by decide) (Nat.le_of_ble_eq_true rfl) ?_
    exact xs_iret hX rfl dX4_at_22 (by simp only [mMo_at, if_pos c6]) (by simp only [mMo_at, if_pos c6])
  · refine xs_iload_n 1 dX4_at_9 rfl ?_
    refine xs_aload_n 0 dX4_at_10 rfl ?_
    refine g_Mo_size dX4_at_11 ?_
    refine xs_icmp_lt (t := 23) dX4_at_14 (by decide) (fun c14 => ?_) (fun c14 => ?_)
    · refine xs_aload_n 0 dX4_at_23 rfl ?_
      refine k_Mo_lay dX4_at_24 kw_Mo_Mo_lay (by decide) (Nat.le_of_ble_eq_true rfl) hz hr hl ?_
      refine xs_aload_n 0 dX4_at_27 rfl ?_
      refine g_Mo_keys dX4_at_28 ?_
      refine xs_aload_n 0 dX4_at_31 rfl ?_
      refine g_Mo_order dX4_at_32 ?_
      refine xs_iload_n 1 dX4_at_35 rfl ?_
      refine xs_top (i32_nn c6) ?_
      refine aln_O dX4_at_36 (Nat.lt_of_lt_of_le (i32_lt_nn c6 (Nat.lt_of_le_of_lt hz (by decide)) c14) hz) ?_
      refine alq_M0 dX4_at_37 ?_
      exact xs_iret hX rfl dX4_at_38 (by simp only [mMo_at, if_neg c6, if_pos c14]) (by simp only [mMo_at, if_neg c6, if_pos c14])
    · refine xs_aload_n 0 dX4_at_17 rfl ?_
      refine xs_iconst (v := 1) dX4_at_18 (by decide) ?_
      refine k_Mo_fail dX4_at_19 kw_Mo_Mo_fail (by decide) (Nat.le_of_ble_eq_true rfl) ?_
      exact xs_iret hX rfl dX4_at_22 (by simp only [mMo_at, if_neg c6, if_neg c14]) (by simp only [mMo_at, if_neg c6, if_neg c14])
theorem k_Mo_at {X : xz_X} {cA : ClassId} {own : String} {am : Nat → Nat} {cc : ByteArray} {nL : Nat} {ret : Option FieldType} {R : Room} {s : zM} {pc ix : Nat} {L : List (Nat × Value)} {st : List Value} {i : Int32} (d : decode cc pc = .ok (.invokevirtual ix, 3)) (hw : xwV own ix yX4_at cX4_at 2 (some .int) 1) (hR : xroom R_Mo_at 2 R) (hst : (st.map fun v => v.category).sum ≤ 8) (hz : s.2.2.2 ≤ 2000) (hr : mrok s) (hl : layOk (y1 s 4 0 0)) (kk : xs X cA own cc nL ret R (wm am cA ((mMo_at s i).2)) 0 0 (pc + 3) L (.int ((mMo_at s i).1) :: st)) : xs X cA own cc nL ret R (wm am cA s) 0 0 pc L (.int i :: .ref (am 0) :: st) :=
  xs_call 0 (c_Mo_at am cA s i hz hr hl) rfl rfl d hw hR rfl rfl rfl hst ⟨Nat.zero_le _, Nat.zero_le _⟩ kk
abbrev R_Mo_after : Room := { frames := 2, cells := 0, slots := 0, locals := 45 }
set_option maxHeartbeats 4000000 in
set_option maxRecDepth 100000 in
theorem t_Mo_af {X : xz_X} {am : Nat → Nat} {cA : ClassId} {s : zM} {key : Int32} (hz : s.2.2.2 ≤ 2000) : ∀ (n i : Nat), n = s.2.2.2 - 1 - i → i ≤ 2000 → xfin X cA 0 0 (some (.int ((mMo_afR s (mMo_afL s key n i)).1))) (wm am cA ((mMo_afR s (mMo_afL s key n i)).2)) → xs X cA RX4 cX4_after 3 (some .int) R_Mo_after (wm am cA s) 0 0 11 [(2, .int (nI i)), (1, .int key), (0, .ref (am 0))] [] := by
  intro n
  induction n with
  | zero =>
    intro i hi hj hX
    refine xs_iload_n 0 dX4_after_11 rfl ?_
    refine xs_iconst (v := 1) dX4_after_12 (by decide) ?_
    refine xs_iadd dX4_after_13 ?_
    refine xs_top (nI_1 _) ?_
    refine xs_aload_n 2 dX4_after_14 rfl ?_
    refine g_Mo_size dX4_after_15 ?_
    refine xs_icmp_ge (t := 56) dX4_after_18 (by decide) (fun c18 => ?_) (fun c18 => ?_)
    · refine xs_aload_n 2 dX4_after_56 rfl ?_
      refine xs_iconst (v := 1) dX4_after_57 (by decide) ?_
      refine k_Mo_fail dX4_after_58 kw_Mo_Mo_fail (by decide) (Nat.le_of_ble_eq_true rfl) ?_
      exact xs_iret hX rfl dX4_after_61 rfl rfl
    · exact absurd (kn_le (by omega) (by omega)) c18
  | succ n ih =>
    intro i hi hj hX
    refine xs_iload_n 0 dX4_after_11 rfl ?_
    refine xs_iconst (v := 1) dX4_after_12 (by decide) ?_
    refine xs_iadd dX4_after_13 ?_
    refine xs_top (nI_1 _) ?_
    refine xs_aload_n 2 dX4_after_14 rfl ?_
    refine g_Mo_size dX4_after_15 ?_
    refine xs_icmp_ge (t := 56) dX4_after_18 (by decide) (fun c18 => ?_) (fun c18 => ?_)
    · exact absurd c18 (kn_nle (by omega) (by omega))
    · refine xs_aload_n 2 dX4_after_21 rfl ?_
      refine g_Mo_keys dX4_after_22 ?_
      refine xs_aload_n 2 dX4_after_25 rfl ?_
      refine g_Mo_order dX4_after_26 ?_
      refine xs_iload_n 0 dX4_after_29 rfl ?_
      refine aln_O dX4_after_30 (by omega) ?_
      refine alq_M0 dX4_after_31 ?_
      refine xs_iload_n 1 dX4_after_32 rfl ?_
      refine xs_icmp_ne (t := 50) dX4_after_33 (by decide) (fun c33 => ?_) (fun c33 => ?_)
      · refine xs_iinc_n (L' := [(2, _), (1, _), (0, _)]) 0 dX4_after_50 rfl (by decide) rfl ?_
        refine xs_goto (t := 11) dX4_after_53 (by decide) ?_
        refine xs_sub (L' := [(2, _), (1, _), (0, _)]) [0, 1, 2] rfl ?_
        exact ih _ (by omega) (by omega) (by simp only [mMo_afL, if_neg c18, if_neg c33] at hX; exact hX)
      · refine xs_aload_n 2 dX4_after_36 rfl ?_
        refine g_Mo_keys dX4_after_37 ?_
        refine xs_aload_n 2 dX4_after_40 rfl ?_
        refine g_Mo_order dX4_after_41 ?_
        refine xs_iload_n 0 dX4_after_44 rfl ?_
        refine xs_iconst (v := 1) dX4_after_45 (by decide) ?_
        refine xs_iadd dX4_after_46 ?_
        refine xs_top (nI_1 _) ?_
        refine aln_O dX4_after_47 (by omega) ?_
        refine alq_M0 dX4_after_48 ?_
        exact xs_iret hX rfl dX4_after_49 (by simp only [mMo_afR, mMo_afL, if_neg c18, if_pos c33]) (by simp only [mMo_afR, mMo_afL, if_neg c18, if_pos c33])
set_option maxHeartbeats 4000000 in
set_option maxRecDepth 100000 in
theorem c_Mo_after (am : Nat → Nat) (cA : ClassId) (s : zM) (key : Int32) (hz : s.2.2.2 ≤ 2000) (hr : mrok s) (hl : layOk (y1 s 4 0 0)) : xct cA yX4_after cX4_after 3 (some .int) R_Mo_after [.ref (am 0), .int key] (wm am cA s) (some (.int ((mMo_after s key).1))) (wm am cA ((mMo_after s key).2)) := by
  refine xct_of (own := RX4) (by decide) rfl (Nat.le_of_ble_eq_true rfl) (fun X hX => ?_)
  show xs X cA RX4 cX4_after 3 (some .int) R_Mo_after (wm am cA s) 0 0 0 [(0, .ref (am 0)), (1, .int key)] []
  refine xs_aload_n 0 dX4_after_0 rfl ?_
  refine xs_iconst (v := 0) dX4_after_1 (by decide) ?_
  refine p_Mo_failed dX4_after_2 ?_
  refine xs_aload_n 0 dX4_after_5 rfl ?_
  refine k_Mo_lay dX4_after_6 kw_Mo_Mo_lay (by decide) (Nat.le_of_ble_eq_true rfl) hz hr hl ?_
  refine xs_iconst (v := nI 0) dX4_after_9 rfl ?_
  refine xs_istore_n (L' := [(2, _), (0, _), (1, _)]) dX4_after_10 (by decide) rfl ?_
  refine xs_sub (L' := [(2, _), (1, _), (0, _)]) [0, 2, 1] rfl ?_
  exact t_Mo_af (s := mMo_lay (y1 s 4 0 0)) (by rw [(lay_z _).2]; exact hz) _ 0 rfl (by decide) hX
theorem k_Mo_after {X : xz_X} {cA : ClassId} {own : String} {am : Nat → Nat} {cc : ByteArray} {nL : Nat} {ret : Option FieldType} {R : Room} {s : zM} {pc ix : Nat} {L : List (Nat × Value)} {st : List Value} {key : Int32} (d : decode cc pc = .ok (.invokevirtual ix, 3)) (hw : xwV own ix yX4_after cX4_after 3 (some .int) 1) (hR : xroom R_Mo_after 3 R) (hst : (st.map fun v => v.category).sum ≤ 8) (hz : s.2.2.2 ≤ 2000) (hr : mrok s) (hl : layOk (y1 s 4 0 0)) (kk : xs X cA own cc nL ret R (wm am cA ((mMo_after s key).2)) 0 0 (pc + 3) L (.int ((mMo_after s key).1) :: st)) : xs X cA own cc nL ret R (wm am cA s) 0 0 pc L (.int key :: .ref (am 0) :: st) :=
  xs_call 0 (c_Mo_after am cA s key hz hr hl) rfl rfl d hw hR rfl rfl rfl hst ⟨Nat.zero_le _, Nat.zero_le _⟩ kk
abbrev R_Mo_size : Room := { frames := 0, cells := 0, slots := 0, locals := 0 }
set_option maxHeartbeats 4000000 in
set_option maxRecDepth 100000 in
theorem c_Mo_size (am : Nat → Nat) (cA : ClassId) (s : zM) : xct cA yX4_size cX4_size 1 (some .int) R_Mo_size [.ref (am 0)] (wm am cA s) (some (.int (nI (s.2.2.2)))) (wm am cA (y1 s 4 0 0)) := by
  refine xct_of (own := RX4) (by decide) rfl (Nat.le_of_ble_eq_true rfl) (fun X hX => ?_)
  show xs X cA RX4 cX4_size 1 (some .int) R_Mo_size (wm am cA s) 0 0 0 [(0, .ref (am 0))] []
  refine xs_aload_n 0 dX4_size_0 rfl ?_
  refine xs_iconst (v := 0) dX4_size_1 (by decide) ?_
  refine p_Mo_failed dX4_size_2 ?_
  refine xs_aload_n 0 dX4_size_5 rfl ?_
  refine g_Mo_size dX4_size_6 ?_
  exact xs_iret hX rfl dX4_size_9 rfl rfl
theorem k_Mo_size {X : xz_X} {cA : ClassId} {own : String} {am : Nat → Nat} {cc : ByteArray} {nL : Nat} {ret : Option FieldType} {R : Room} {s : zM} {pc ix : Nat} {L : List (Nat × Value)} {st : List Value} (d : decode cc pc = .ok (.invokevirtual ix, 3)) (hw : xwV own ix yX4_size cX4_size 1 (some .int) 0) (hR : xroom R_Mo_size 1 R) (hst : (st.map fun v => v.category).sum ≤ 8) (kk : xs X cA own cc nL ret R (wm am cA (y1 s 4 0 0)) 0 0 (pc + 3) L (.int (nI (s.2.2.2)) :: st)) : xs X cA own cc nL ret R (wm am cA s) 0 0 pc L (.ref (am 0) :: st) :=
  xs_call 0 (c_Mo_size am cA s) rfl rfl d hw hR rfl rfl rfl hst ⟨Nat.zero_le _, Nat.zero_le _⟩ kk
abbrev R_Mo_clear : Room := { frames := 0, cells := 0, slots := 0, locals := 0 }
set_option maxHeartbeats 4000000 in
set_option maxRecDepth 100000 in
theorem c_Mo_clear (am : Nat → Nat) (cA : ClassId) (s : zM) : xct cA yX4_clear cX4_clear 2 (some .int) R_Mo_clear [.ref (am 0)] (wm am cA s) (some (.int (nI (s.2.2.2)))) (wm am cA (yz (y1 s 4 0 0) 0)) := by
  refine xct_of (own := RX4) (by decide) rfl (Nat.le_of_ble_eq_true rfl) (fun X hX => ?_)
  show xs X cA RX4 cX4_clear 2 (some .int) R_Mo_clear (wm am cA s) 0 0 0 [(0, .ref (am 0))] []
  refine xs_aload_n 0 dX4_clear_0 rfl ?_
  refine xs_iconst (v := 0) dX4_clear_1 (by decide) ?_
  refine p_Mo_failed dX4_clear_2 ?_
  refine xs_aload_n 0 dX4_clear_5 rfl ?_
  refine g_Mo_size dX4_clear_6 ?_
  refine xs_istore_n (L' := [(1, _), (0, _)]) dX4_clear_9 (by decide) rfl ?_
  refine xs_aload_n 1 dX4_clear_10 rfl ?_
  refine xs_iconst (v := nI 0) dX4_clear_11 rfl ?_
  refine p_Mo_size dX4_clear_12 ?_
  refine xs_iload_n 0 dX4_clear_15 rfl ?_
  exact xs_iret hX rfl dX4_clear_16 rfl rfl
theorem k_Mo_clear {X : xz_X} {cA : ClassId} {own : String} {am : Nat → Nat} {cc : ByteArray} {nL : Nat} {ret : Option FieldType} {R : Room} {s : zM} {pc ix : Nat} {L : List (Nat × Value)} {st : List Value} (d : decode cc pc = .ok (.invokevirtual ix, 3)) (hw : xwV own ix yX4_clear cX4_clear 2 (some .int) 0) (hR : xroom R_Mo_clear 2 R) (hst : (st.map fun v => v.category).sum ≤ 8) (kk : xs X cA own cc nL ret R (wm am cA (yz (y1 s 4 0 0) 0)) 0 0 (pc + 3) L (.int (nI (s.2.2.2)) :: st)) : xs X cA own cc nL ret R (wm am cA s) 0 0 pc L (.ref (am 0) :: st) :=
  xs_call 0 (c_Mo_clear am cA s) rfl rfl d hw hR rfl rfl rfl hst ⟨Nat.zero_le _, Nat.zero_le _⟩ kk
abbrev R_Mo_hash : Room := { frames := 2, cells := 0, slots := 0, locals := 45 }
set_option maxHeartbeats 4000000 in
set_option maxRecDepth 100000 in
theorem t_Mo_hash {X : xz_X} {am : Nat → Nat} {cA : ClassId} {s : zM} (hz : s.2.2.2 ≤ 2000) : ∀ (n i : Nat) (h : Int32), i + n = s.2.2.2 → xfin X cA 0 0 (some (.int (mMo_hashL s n i h))) (wm am cA (s)) → xs X cA RX4 cX4_hash 3 (some .int) R_Mo_hash (wm am cA s) 0 0 13 [(2, .int (nI i)), (1, .int h), (0, .ref (am 0))] [] := by
  intro n
  induction n with
  | zero =>
    intro i h hi hX
    refine xs_iload_n 0 dX4_hash_13 rfl ?_
    refine xs_aload_n 2 dX4_hash_14 rfl ?_
    refine g_Mo_size dX4_hash_15 ?_
    refine xs_icmp_ge (t := 59) dX4_hash_18 (by decide) (fun c18 => ?_) (fun c18 => ?_)
    · refine xs_iload_n 1 dX4_hash_59 rfl ?_
      exact xs_iret hX rfl dX4_hash_60 rfl rfl
    · exact absurd (kn_le (by omega) (by omega)) c18
  | succ n ih =>
    intro i h hi hX
    refine xs_iload_n 0 dX4_hash_13 rfl ?_
    refine xs_aload_n 2 dX4_hash_14 rfl ?_
    refine g_Mo_size dX4_hash_15 ?_
    refine xs_icmp_ge (t := 59) dX4_hash_18 (by decide) (fun c18 => ?_) (fun c18 => ?_)
    · exact absurd c18 (kn_nle (by omega) (by omega))
    · refine xs_bipush (v := 31) dX4_hash_21 (by decide) ?_
      refine xs_bipush (v := 31) dX4_hash_23 (by decide) ?_
      refine xs_iload_n 1 dX4_hash_25 rfl ?_
      refine xs_imul dX4_hash_26 ?_
      refine xs_aload_n 2 dX4_hash_27 rfl ?_
      refine g_Mo_keys dX4_hash_28 ?_
      refine xs_aload_n 2 dX4_hash_31 rfl ?_
      refine g_Mo_order dX4_hash_32 ?_
      refine xs_iload_n 0 dX4_hash_35 rfl ?_
      refine aln_O dX4_hash_36 (by omega) ?_
      refine alq_M0 dX4_hash_37 ?_
      refine xs_iadd dX4_hash_38 ?_
      refine xs_imul dX4_hash_39 ?_
      refine xs_aload_n 2 dX4_hash_40 rfl ?_
      refine g_Mo_numbers dX4_hash_41 ?_
      refine xs_aload_n 2 dX4_hash_44 rfl ?_
      refine g_Mo_order dX4_hash_45 ?_
      refine xs_iload_n 0 dX4_hash_48 rfl ?_
      refine aln_O dX4_hash_49 (by omega) ?_
      refine alq_M1 dX4_hash_50 ?_
      refine xs_iadd dX4_hash_51 ?_
      refine xs_istore_n (L' := [(1, _), (2, _), (0, _)]) dX4_hash_52 (by decide) rfl ?_
      refine xs_iinc_n (L' := [(2, _), (1, _), (0, _)]) 1 dX4_hash_53 rfl (by decide) rfl ?_
      refine xs_goto (t := 13) dX4_hash_56 (by decide) ?_
      refine xs_sub (L' := [(2, _), (1, _), (0, _)]) [0, 1, 2] rfl ?_
      exact ih _ _ (by omega) hX
set_option maxHeartbeats 4000000 in
set_option maxRecDepth 100000 in
theorem c_Mo_hash (am : Nat → Nat) (cA : ClassId) (s : zM) (hz : s.2.2.2 ≤ 2000) (hr : mrok s) (hl : layOk (y1 s 4 0 0)) : xct cA yX4_hash cX4_hash 3 (some .int) R_Mo_hash [.ref (am 0)] (wm am cA s) (some (.int (mMo_hash s))) (wm am cA (mMo_lay (y1 s 4 0 0))) := by
  refine xct_of (own := RX4) (by decide) rfl (Nat.le_of_ble_eq_true rfl) (fun X hX => ?_)
  show xs X cA RX4 cX4_hash 3 (some .int) R_Mo_hash (wm am cA s) 0 0 0 [(0, .ref (am 0))] []
  refine xs_aload_n 0 dX4_hash_0 rfl ?_
  refine xs_iconst (v := 0) dX4_hash_1 (by decide) ?_
  refine p_Mo_failed dX4_hash_2 ?_
  refine xs_aload_n 0 dX4_hash_5 rfl ?_
  refine k_Mo_lay dX4_hash_6 kw_Mo_Mo_lay (by decide) (Nat.le_of_ble_eq_true rfl) hz hr hl ?_
  refine xs_iconst (v := 1) dX4_hash_9 (by decide) ?_
  refine xs_istore_n (L' := [(1, _), (0, _)]) dX4_hash_10 (by decide) rfl ?_
  refine xs_iconst (v := nI 0) dX4_hash_11 rfl ?_
  refine xs_istore_n (L' := [(2, _), (1, _), (0, _)]) dX4_hash_12 (by decide) rfl ?_
  refine xs_sub (L' := [(2, _), (1, _), (0, _)]) [0, 1, 2] rfl ?_
  exact t_Mo_hash (s := mMo_lay (y1 s 4 0 0)) (by rw [(lay_z _).2]; exact hz) _ 0 _ (Nat.zero_add _) hX
theorem k_Mo_hash {X : xz_X} {cA : ClassId} {own : String} {am : Nat → Nat} {cc : ByteArray} {nL : Nat} {ret : Option FieldType} {R : Room} {s : zM} {pc ix : Nat} {L : List (Nat × Value)} {st : List Value} (d : decode cc pc = .ok (.invokevirtual ix, 3)) (hw : xwV own ix yX4_hash cX4_hash 3 (some .int) 0) (hR : xroom R_Mo_hash 3 R) (hst : (st.map fun v => v.category).sum ≤ 8) (hz : s.2.2.2 ≤ 2000) (hr : mrok s) (hl : layOk (y1 s 4 0 0)) (kk : xs X cA own cc nL ret R (wm am cA (mMo_lay (y1 s 4 0 0))) 0 0 (pc + 3) L (.int (mMo_hash s) :: st)) : xs X cA own cc nL ret R (wm am cA s) 0 0 pc L (.ref (am 0) :: st) :=
  xs_call 0 (c_Mo_hash am cA s hz hr hl) rfl rfl d hw hR rfl rfl rfl hst ⟨Nat.zero_le _, Nat.zero_le _⟩ kk
abbrev R_Mo_wrong : Room := { frames := 0, cells := 0, slots := 0, locals := 0 }
set_option maxHeartbeats 4000000 in
set_option maxRecDepth 100000 in
theorem c_Mo_wrong (am : Nat → Nat) (cA : ClassId) (s : zM) : xct cA yX4_wrong cX4_wrong 1 (some .int) R_Mo_wrong [.ref (am 0)] (wm am cA s) (some (.int (0))) (wm am cA (y1 s 4 0 0)) := by
  refine xct_of (own := RX4) (by decide) rfl (Nat.le_of_ble_eq_true rfl) (fun X hX => ?_)
  show xs X cA RX4 cX4_wrong 1 (some .int) R_Mo_wrong (wm am cA s) 0 0 0 [(0, .ref (am 0))] []
  refine xs_aload_n 0 dX4_wrong_0 rfl ?_
  refine xs_iconst (v := 0) dX4_wrong_1 (by decide) ?_
  refine p_Mo_failed dX4_wrong_2 ?_
  refine xs_iconst (v := 0) dX4_wrong_5 (by decide) ?_
  exact xs_iret hX rfl dX4_wrong_6 rfl rfl
theorem k_Mo_wrong {X : xz_X} {cA : ClassId} {own : String} {am : Nat → Nat} {cc : ByteArray} {nL : Nat} {ret : Option FieldType} {R : Room} {s : zM} {pc ix : Nat} {L : List (Nat × Value)} {st : List Value} (d : decode cc pc = .ok (.invokevirtual ix, 3)) (hw : xwV own ix yX4_wrong cX4_wrong 1 (some .int) 0) (hR : xroom R_Mo_wrong 1 R) (hst : (st.map fun v => v.category).sum ≤ 8) (kk : xs X cA own cc nL ret R (wm am cA (y1 s 4 0 0)) 0 0 (pc + 3) L (.int (0) :: st)) : xs X cA own cc nL ret R (wm am cA s) 0 0 pc L (.ref (am 0) :: st) :=
  xs_call 0 (c_Mo_wrong am cA s) rfl rfl d hw hR rfl rfl rfl hst ⟨Nat.zero_le _, Nat.zero_le _⟩ kk
abbrev R_Mo_make : Room := { frames := 1, cells := 0, slots := 0, locals := 21 }
set_option maxHeartbeats 4000000 in
set_option maxRecDepth 100000 in
theorem c_Mo_make (am : Nat → Nat) (cA : ClassId) (s : zM) (mode : Int32) (f : Int32) (most : Int32) : xct cA yX4_make cX4_make 5 (some .int) R_Mo_make [.ref (am 0), .int mode, .int f, .int most] (wm am cA s) (some (.int ((mMo_make s mode f most).1))) (wm am cA ((mMo_make s mode f most).2)) := by
  refine xct_of (own := RX4) (by decide) rfl (Nat.le_of_ble_eq_true rfl) (fun X hX => ?_)
  show xs X cA RX4 cX4_make 5 (some .int) R_Mo_make (wm am cA s) 0 0 0 [(0, .ref (am 0)), (1, .int mode), (2, .int f), (3, .int most)] []
  refine xs_aload_n 0 dX4_make_0 rfl ?_
  refine xs_iconst (v := 0) dX4_make_1 (by decide) ?_
  refine p_Mo_failed dX4_make_2 ?_
  refine xs_iload_n 1 dX4_make_5 rfl ?_
  refine xs_if_lt (t := 47) dX4_make_6 (by decide) (fun c6 => ?_) (fun c6 => ?_)
  · refine xs_aload_n 0 dX4_make_47 rfl ?_
    refine xs_iconst (v := 1) dX4_make_48 (by decide) ?_
    refine k_Mo_fail dX4_make_49 kw_Mo_Mo_fail (by decide) (Nat.le_of_ble_eq_true rfl) ?_
    exact xs_iret hX rfl dX4_make_52 (by simp [mMo_make, mMo_okMode, c6]) (by simp [mMo_make, mMo_okMode, c6, mMo_fail])
  · refine xs_iload_n 1 dX4_make_9 rfl ?_
    refine xs_iconst (v := 2) dX4_make_10 (by decide) ?_
    refine xs_icmp_gt (t := 47) dX4_make_11 (by decide) (fun c11 => ?_) (fun c11 => ?_)
    · refine xs_aload_n 0 dX4_make_47 rfl ?_
      refine xs_iconst (v := 1) dX4_make_48 (by decide) ?_
      refine k_Mo_fail dX4_make_49 kw_Mo_Mo_fail (by decide) (Nat.le_of_ble_eq_true rfl) ?_
      exact xs_iret hX rfl dX4_make_52 (by simp [mMo_make, mMo_okMode, c6, c11]) (by simp [mMo_make, mMo_okMode, c6, c11, mMo_fail])
    · refine xs_iload_n 2 dX4_make_14 rfl ?_
      refine xs_if_lt (t := 47) dX4_make_15 (by decide) (fun c15 => ?_) (fun c15 => ?_)
      · refine xs_aload_n 0 dX4_make_47 rfl ?_
        refine xs_iconst (v := 1) dX4_make_48 (by decide) ?_
        refine k_Mo_fail dX4_make_49 kw_Mo_Mo_fail (by decide) (Nat.le_of_ble_eq_true rfl) ?_
        exact xs_iret hX rfl dX4_make_52 (by simp [mMo_make, mMo_okMode, c6, c11, c15]) (by simp [mMo_make, mMo_okMode, c6, c11, c15, mMo_fail])
      · refine xs_iload_n 2 dX4_make_18 rfl ?_
        refine xs_iconst (v := 2) dX4_make_19 (by decide) ?_
        refine xs_icmp_gt (t := 47) dX4_make_20 (by decide) (fun c20 => ?_) (fun c20 => ?_)
        · refine xs_aload_n 0 dX4_make_47 rfl ?_
          refine xs_iconst (v := 1) dX4_make_48 (by decide) ?_
          refine k_Mo_fail dX4_make_49 kw_Mo_Mo_fail (by decide) (Nat.le_of_ble_eq_true rfl) ?_
          exact xs_iret hX rfl dX4_make_52 (by simp [mMo_make, mMo_okMode, c6, c11, c15, c20]) (by simp [mMo_make, mMo_okMode, c6, c11, c15, c20, mMo_fail])
        · refine xs_iload_n 1 dX4_make_23 rfl ?_
          refine xs_iconst (v := 2) dX4_make_24 (by decide) ?_
          refine xs_icmp_ne (t := 43) dX4_make_25 (by decide) (fun c25 => ?_) (fun c25 => ?_)
          · refine xs_iload_n 3 dX4_make_43 rfl ?_
            refine xs_if_eq (t := 53) dX4_make_44 (by decide) (fun c44 => ?_) (fun c44 => ?_)
            · refine xs_aload_n 0 dX4_make_53 rfl ?_
              refine g_Mo_size dX4_make_54 ?_
              refine xs_istore (L' := [(4, _), (0, _), (1, _), (2, _), (3, _)]) dX4_make_57 (by decide) rfl ?_
              refine xs_aload_n 1 dX4_make_59 rfl ?_
              refine xs_iload_n 2 dX4_make_60 rfl ?_
              refine p_Mo_mode dX4_make_61 ?_
              refine xs_aload_n 1 dX4_make_64 rfl ?_
              refine xs_iload_n 3 dX4_make_65 rfl ?_
              refine p_Mo_function dX4_make_66 ?_
              refine xs_aload_n 1 dX4_make_69 rfl ?_
              refine xs_iload_n 4 dX4_make_70 rfl ?_
              refine p_Mo_most dX4_make_71 ?_
              refine xs_aload_n 1 dX4_make_74 rfl ?_
              refine xs_bipush (v := 16) dX4_make_75 (by decide) ?_
              refine p_Mo_room dX4_make_77 ?_
              refine xs_aload_n 1 dX4_make_80 rfl ?_
              refine xs_iconst (v := nI 0) dX4_make_81 rfl ?_
              refine p_Mo_size dX4_make_82 ?_
              refine xs_iload 0 dX4_make_85 rfl ?_
              exact xs_iret hX rfl dX4_make_87 (by simp [mMo_make, mMo_okMode, c6, c11, c15, c20, c25, c44]) (by simp [mMo_make, mMo_okMode, c6, c11, c15, c20, c25, c44, mMo_fail])
            · refine xs_aload_n 0 dX4_make_47 rfl ?_
              refine xs_iconst (v := 1) dX4_make_48 (by decide) ?_
              refine k_Mo_fail dX4_make_49 kw_Mo_Mo_fail (by decide) (Nat.le_of_ble_eq_true rfl) ?_
              exact xs_iret hX rfl dX4_make_52 (by simp [mMo_make, mMo_okMode, c6, c11, c15, c20, c25, c44]) (by simp [mMo_make, mMo_okMode, c6, c11, c15, c20, c25, c44, mMo_fail])
          · refine xs_iload_n 3 dX4_make_28 rfl ?_
            refine xs_iconst (v := 1) dX4_make_29 (by decide) ?_
            refine xs_icmp_lt (t := 47) dX4_make_30 (by decide) (fun c30 => ?_) (fun c30 => ?_)
            · refine xs_aload_n 0 dX4_make_47 rfl ?_
              refine xs_iconst (v := 1) dX4_make_48 (by decide) ?_
              refine k_Mo_fail dX4_make_49 kw_Mo_Mo_fail (by decide) (Nat.le_of_ble_eq_true rfl) ?_
              exact xs_iret hX rfl dX4_make_52 (by simp [mMo_make, mMo_okMode, c6, c11, c15, c20, c25, c30]) (by simp [mMo_make, mMo_okMode, c6, c11, c15, c20, c25, c30, mMo_fail])
            · refine xs_iload_n 3 dX4_make_33 rfl ?_
              refine xs_sipush (v := 2000) dX4_make_34 (by decide) ?_
              refine xs_icmp_le (t := 53) dX4_make_37 (by decide) (fun c37 => ?_) (fun c37 => ?_)
              · refine xs_aload_n 0 dX4_make_53 rfl ?_
                refine g_Mo_size dX4_make_54 ?_
                refine xs_istore (L' := [(4, _), (0, _), (1, _), (2, _), (3, _)]) dX4_make_57 (by decide) rfl ?_
                refine xs_aload_n 1 dX4_make_59 rfl ?_
                refine xs_iload_n 2 dX4_make_60 rfl ?_
                refine p_Mo_mode dX4_make_61 ?_
                refine xs_aload_n 1 dX4_make_64 rfl ?_
                refine xs_iload_n 3 dX4_make_65 rfl ?_
                refine p_Mo_function dX4_make_66 ?_
                refine xs_aload_n 1 dX4_make_69 rfl ?_
                refine xs_iload_n 4 dX4_make_70 rfl ?_
                refine p_Mo_most dX4_make_71 ?_
                refine xs_aload_n 1 dX4_make_74 rfl ?_
                refine xs_bipush (v := 16) dX4_make_75 (by decide) ?_
                refine p_Mo_room dX4_make_77 ?_
                refine xs_aload_n 1 dX4_make_80 rfl ?_
                refine xs_iconst (v := nI 0) dX4_make_81 rfl ?_
                refine p_Mo_size dX4_make_82 ?_
                refine xs_iload 0 dX4_make_85 rfl ?_
                exact xs_iret hX rfl dX4_make_87 (by simp [mMo_make, mMo_okMode, c6, c11, c15, c20, c25, c30, c37]) (by simp [mMo_make, mMo_okMode, c6, c11, c15, c20, c25, c30, c37, mMo_fail])
              · refine xs_goto (t := 47) dX4_make_40 (by decide) ?_
                refine xs_aload_n 0 dX4_make_47 rfl ?_
                refine xs_iconst (v := 1) dX4_make_48 (by decide) ?_
                refine k_Mo_fail dX4_make_49 kw_Mo_Mo_fail (by decide) (Nat.le_of_ble_eq_true rfl) ?_
                exact xs_iret hX rfl dX4_make_52 (by simp [mMo_make, mMo_okMode, c6, c11, c15, c20, c25, c30, c37]) (by simp [mMo_make, mMo_okMode, c6, c11, c15, c20, c25, c30, c37, mMo_fail])
theorem k_Mo_make {X : xz_X} {cA : ClassId} {own : String} {am : Nat → Nat} {cc : ByteArray} {nL : Nat} {ret : Option FieldType} {R : Room} {s : zM} {pc ix : Nat} {L : List (Nat × Value)} {st : List Value} {mode : Int32} {f : Int32} {most : Int32} (d : decode cc pc = .ok (.invokevirtual ix, 3)) (hw : xwV own ix yX4_make cX4_make 5 (some .int) 3) (hR : xroom R_Mo_make 5 R) (hst : (st.map fun v => v.category).sum ≤ 8) (kk : xs X cA own cc nL ret R (wm am cA ((mMo_make s mode f most).2)) 0 0 (pc + 3) L (.int ((mMo_make s mode f most).1) :: st)) : xs X cA own cc nL ret R (wm am cA s) 0 0 pc L (.int most :: .int f :: .int mode :: .ref (am 0) :: st) :=
  xs_call 0 (c_Mo_make am cA s mode f most) rfl rfl d hw hR rfl rfl rfl hst ⟨Nat.zero_le _, Nat.zero_le _⟩ kk
