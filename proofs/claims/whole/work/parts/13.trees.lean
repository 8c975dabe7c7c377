abbrev R_Tr_keyOf : Room := { frames := 0, cells := 0, slots := 0, locals := 0 }
set_option maxHeartbeats 4000000 in
set_option maxRecDepth 100000 in
theorem c_Tr_keyOf (ad : Nat → Nat) (cA : ClassId) (s : zT) (a : zS) : xct cA yX2_keyOf cX2_keyOf 2 (some .int) R_Tr_keyOf [.ref (ad 4), .int (zs a)] (wd ad cA s) (some (.int (s.2 0 a))) (wd ad cA (s)) := by
  refine xct_of (own := RX2) (by decide) rfl (Nat.le_of_ble_eq_true rfl) (fun X hX => ?_)
  show xs X cA RX2 cX2_keyOf 2 (some .int) R_Tr_keyOf (wd ad cA s) 0 0 0 [(0, .ref (ad 4)), (1, .int (zs a))] []
  refine xs_aload_n 0 dX2_keyOf_0 rfl ?_
  refine g_Tr_keys dX2_keyOf_1 ?_
  refine xs_iload_n 1 dX2_keyOf_4 rfl ?_
  refine al_I0 dX2_keyOf_5 ?_
  exact xs_iret hX rfl dX2_keyOf_6 rfl rfl
theorem k_Tr_keyOf {X : xz_X} {cA : ClassId} {own : String} {ad : Nat → Nat} {cc : ByteArray} {nL : Nat} {ret : Option FieldType} {R : Room} {s : zT} {pc ix : Nat} {L : List (Nat × Value)} {st : List Value} {a : zS} (d : decode cc pc = .ok (.invokevirtual ix, 3)) (hw : xwV own ix yX2_keyOf cX2_keyOf 2 (some .int) 1) (hR : xroom R_Tr_keyOf 2 R) (hst : (st.map fun v => v.category).sum ≤ 8) (kk : xs X cA own cc nL ret R (wd ad cA (s)) 0 0 (pc + 3) L (.int (s.2 0 a) :: st)) : xs X cA own cc nL ret R (wd ad cA s) 0 0 pc L (.int (zs a) :: .ref (ad 4) :: st) :=
  xs_call 4 (c_Tr_keyOf ad cA s a) rfl rfl d hw hR rfl rfl rfl hst ⟨Nat.zero_le _, Nat.zero_le _⟩ kk
abbrev R_Tr_name : Room := { frames := 0, cells := 0, slots := 0, locals := 0 }
set_option maxHeartbeats 4000000 in
set_option maxRecDepth 100000 in
theorem c_Tr_name (ad : Nat → Nat) (cA : ClassId) (s : zT) (a : zS) (x : Int32) : xct cA yX2_name cX2_name 3 none R_Tr_name [.ref (ad 4), .int (zs a), .int x] (wd ad cA s) none (wd ad cA (u2 s 0 a x)) := by
  refine xct_of (own := RX2) (by decide) rfl (Nat.le_of_ble_eq_true rfl) (fun X hX => ?_)
  show xs X cA RX2 cX2_name 3 none R_Tr_name (wd ad cA s) 0 0 0 [(0, .ref (ad 4)), (1, .int (zs a)), (2, .int x)] []
  refine xs_aload_n 0 dX2_name_0 rfl ?_
  refine g_Tr_keys dX2_name_1 ?_
  refine xs_iload_n 1 dX2_name_4 rfl ?_
  refine xs_iload_n 2 dX2_name_5 rfl ?_
  refine as_I0 dX2_name_6 ?_
  exact xs_vret hX rfl dX2_name_7 rfl
theorem k_Tr_name {X : xz_X} {cA : ClassId} {own : String} {ad : Nat → Nat} {cc : ByteArray} {nL : Nat} {ret : Option FieldType} {R : Room} {s : zT} {pc ix : Nat} {L : List (Nat × Value)} {st : List Value} {a : zS} {x : Int32} (d : decode cc pc = .ok (.invokevirtual ix, 3)) (hw : xwV own ix yX2_name cX2_name 3 none 2) (hR : xroom R_Tr_name 3 R) (hst : (st.map fun v => v.category).sum ≤ 8) (kk : xs X cA own cc nL ret R (wd ad cA (u2 s 0 a x)) 0 0 (pc + 3) L (st)) : xs X cA own cc nL ret R (wd ad cA s) 0 0 pc L (.int x :: .int (zs a) :: .ref (ad 4) :: st) :=
  xs_call 4 (c_Tr_name ad cA s a x) rfl rfl d hw hR rfl rfl rfl hst ⟨Nat.zero_le _, Nat.zero_le _⟩ kk
abbrev R_Tr_heightOf : Room := { frames := 0, cells := 0, slots := 0, locals := 0 }
set_option maxHeartbeats 4000000 in
set_option maxRecDepth 100000 in
theorem c_Tr_heightOf (ad : Nat → Nat) (cA : ClassId) (s : zT) (a : zS) : xct cA yX2_heightOf cX2_heightOf 2 (some .int) R_Tr_heightOf [.ref (ad 4), .int (zs a)] (wd ad cA s) (some (.int (s.2 1 a))) (wd ad cA (s)) := by
  refine xct_of (own := RX2) (by decide) rfl (Nat.le_of_ble_eq_true rfl) (fun X hX => ?_)
  show xs X cA RX2 cX2_heightOf 2 (some .int) R_Tr_heightOf (wd ad cA s) 0 0 0 [(0, .ref (ad 4)), (1, .int (zs a))] []
  refine xs_aload_n 0 dX2_heightOf_0 rfl ?_
  refine g_Tr_heights dX2_heightOf_1 ?_
  refine xs_iload_n 1 dX2_heightOf_4 rfl ?_
  refine al_I1 dX2_heightOf_5 ?_
  exact xs_iret hX rfl dX2_heightOf_6 rfl rfl
theorem k_Tr_heightOf {X : xz_X} {cA : ClassId} {own : String} {ad : Nat → Nat} {cc : ByteArray} {nL : Nat} {ret : Option FieldType} {R : Room} {s : zT} {pc ix : Nat} {L : List (Nat × Value)} {st : List Value} {a : zS} (d : decode cc pc = .ok (.invokevirtual ix, 3)) (hw : xwV own ix yX2_heightOf cX2_heightOf 2 (some .int) 1) (hR : xroom R_Tr_heightOf 2 R) (hst : (st.map fun v => v.category).sum ≤ 8) (kk : xs X cA own cc nL ret R (wd ad cA (s)) 0 0 (pc + 3) L (.int (s.2 1 a) :: st)) : xs X cA own cc nL ret R (wd ad cA s) 0 0 pc L (.int (zs a) :: .ref (ad 4) :: st) :=
  xs_call 4 (c_Tr_heightOf ad cA s a) rfl rfl d hw hR rfl rfl rfl hst ⟨Nat.zero_le _, Nat.zero_le _⟩ kk
abbrev R_Tr_find : Room := { frames := 0, cells := 0, slots := 0, locals := 0 }
set_option maxHeartbeats 4000000 in
set_option maxRecDepth 100000 in
theorem t_Tr_find {X : xz_X} {ad : Nat → Nat} {cA : ClassId} {s : zT} {key : Int32} : ∀ (n i : Nat) (a : zS), i + n = 40 → xfin X cA 0 0 (some (.int (zs (mTr_find s key n a)))) (wd ad cA (s)) → xs X cA RX2 cX2_slotOf 5 (some .int) R_Tr_find (wd ad cA s) 0 0 5 [(4, .int (nI i)), (3, .int (zs a)), (2, .int key), (0, .ref (ad 4))] [] := by
  intro n
  induction n with
  | zero =>
    intro i a hi hX
    refine xs_iload 0 dX2_slotOf_5 rfl ?_
    refine xs_bipush (v := 40) dX2_slotOf_7 (by decide) ?_
    refine xs_icmp_ge (t := 60) dX2_slotOf_9 (by decide) (fun c9 => ?_) (fun c9 => ?_)
    · refine xs_iconst (v := zs 0) dX2_slotOf_60 rfl ?_
      exact xs_iret hX rfl dX2_slotOf_61 rfl rfl
    · exact absurd (show (40 : Int32) ≤ nI i from kn_le (m := 40) (by omega) (by omega)) c9
  | succ n ih =>
    intro i a hi hX
    refine xs_iload 0 dX2_slotOf_5 rfl ?_
    refine xs_bipush (v := 40) dX2_slotOf_7 (by decide) ?_
    refine xs_icmp_ge (t := 60) dX2_slotOf_9 (by decide) (fun c9 => ?_) (fun c9 => ?_)
    · exact absurd c9 (show ¬ (40 : Int32) ≤ nI i from kn_nle (m := 40) (by omega) (by decide))
    · refine xs_iload_n 1 dX2_slotOf_12 rfl ?_
      refine xs_sif_eq (t := 60) dX2_slotOf_13 (by decide) (fun c13 => ?_) (fun c13 => ?_)
      · refine xs_iconst (v := zs 0) dX2_slotOf_60 rfl ?_
        exact xs_iret hX rfl dX2_slotOf_61 (by simp only [mTr_find, if_neg c9, if_pos c13]) rfl
      · refine xs_aload_n 3 dX2_slotOf_16 rfl ?_
        refine g_Tr_keys dX2_slotOf_17 ?_
        refine xs_iload_n 1 dX2_slotOf_20 rfl ?_
        refine al_I0 dX2_slotOf_21 ?_
        refine xs_iload_n 2 dX2_slotOf_22 rfl ?_
        refine xs_icmp_ne (t := 28) dX2_slotOf_23 (by decide) (fun c23 => ?_) (fun c23 => ?_)
        · refine xs_iload_n 2 dX2_slotOf_28 rfl ?_
          refine xs_aload_n 3 dX2_slotOf_29 rfl ?_
          refine g_Tr_keys dX2_slotOf_30 ?_
          refine xs_iload_n 1 dX2_slotOf_33 rfl ?_
          refine al_I0 dX2_slotOf_34 ?_
          refine xs_icmp_ge (t := 47) dX2_slotOf_35 (by decide) (fun c35 => ?_) (fun c35 => ?_)
          · refine xs_aload_n 3 dX2_slotOf_47 rfl ?_
            refine g_Tr_right dX2_slotOf_48 ?_
            refine xs_iload_n 1 dX2_slotOf_51 rfl ?_
            refine al_S7 dX2_slotOf_52 ?_
            refine xs_istore_n (L' := [(3, _), (4, _), (2, _), (0, _)]) dX2_slotOf_53 (by decide) rfl ?_
            refine xs_iinc_n (L' := [(4, _), (3, _), (2, _), (0, _)]) 1 dX2_slotOf_54 rfl (by decide) rfl ?_
            refine xs_goto (t := 5) dX2_slotOf_57 (by decide) ?_
            refine xs_sub (L' := [(4, _), (3, _), (2, _), (0, _)]) [0, 1, 2, 3] rfl ?_
            exact ih _ _ (by omega) (by simp only [mTr_find, if_neg c9, if_neg c13, if_neg c23, if_pos c35] at hX; exact hX)
          · refine xs_aload_n 3 dX2_slotOf_38 rfl ?_
            refine g_Tr_left dX2_slotOf_39 ?_
            refine xs_iload_n 1 dX2_slotOf_42 rfl ?_
            refine al_S6 dX2_slotOf_43 ?_
            refine xs_goto (t := 53) dX2_slotOf_44 (by decide) ?_
            refine xs_istore_n (L' := [(3, _), (4, _), (2, _), (0, _)]) dX2_slotOf_53 (by decide) rfl ?_
            refine xs_iinc_n (L' := [(4, _), (3, _), (2, _), (0, _)]) 1 dX2_slotOf_54 rfl (by decide) rfl ?_
            refine xs_goto (t := 5) dX2_slotOf_57 (by decide) ?_
            refine xs_sub (L' := [(4, _), (3, _), (2, _), (0, _)]) [0, 1, 2, 3] rfl ?_
            exact ih _ _ (by omega) (by simp only [mTr_find, if_neg c9, if_neg c13, if_neg c23, if_neg c35] at hX; exact hX)
        · refine xs_iload_n 1 dX2_slotOf_26 rfl ?_
          exact xs_iret hX rfl dX2_slotOf_27 (by simp only [mTr_find, if_neg c9, if_neg c13, if_pos c23]) rfl
set_option maxHeartbeats 4000000 in
set_option maxRecDepth 100000 in
theorem c_Tr_find (ad : Nat → Nat) (cA : ClassId) (s : zT) (root : zS) (key : Int32) : xct cA yX2_slotOf cX2_slotOf 5 (some .int) R_Tr_find [.ref (ad 4), .int (zs root), .int key] (wd ad cA s) (some (.int (zs (mTr_find s key 40 root)))) (wd ad cA (s)) := by
  refine xct_of (own := RX2) (by decide) rfl (Nat.le_of_ble_eq_true rfl) (fun X hX => ?_)
  show xs X cA RX2 cX2_slotOf 5 (some .int) R_Tr_find (wd ad cA s) 0 0 0 [(0, .ref (ad 4)), (1, .int (zs root)), (2, .int key)] []
  refine xs_iload_n 1 dX2_slotOf_0 rfl ?_
  refine xs_istore_n (L' := [(3, _), (0, _), (1, _), (2, _)]) dX2_slotOf_1 (by decide) rfl ?_
  refine xs_iconst (v := nI 0) dX2_slotOf_2 rfl ?_
  refine xs_istore (L' := [(4, _), (3, _), (0, _), (1, _), (2, _)]) dX2_slotOf_3 (by decide) rfl ?_
  refine xs_sub (L' := [(4, _), (3, _), (2, _), (0, _)]) [0, 1, 4, 2] rfl ?_
  exact t_Tr_find 40 0 _ rfl hX
theorem k_Tr_find {X : xz_X} {cA : ClassId} {own : String} {ad : Nat → Nat} {cc : ByteArray} {nL : Nat} {ret : Option FieldType} {R : Room} {s : zT} {pc ix : Nat} {L : List (Nat × Value)} {st : List Value} {root : zS} {key : Int32} (d : decode cc pc = .ok (.invokevirtual ix, 3)) (hw : xwV own ix yX2_slotOf cX2_slotOf 5 (some .int) 2) (hR : xroom R_Tr_find 5 R) (hst : (st.map fun v => v.category).sum ≤ 8) (kk : xs X cA own cc nL ret R (wd ad cA (s)) 0 0 (pc + 3) L (.int (zs (mTr_find s key 40 root)) :: st)) : xs X cA own cc nL ret R (wd ad cA s) 0 0 pc L (.int key :: .int (zs root) :: .ref (ad 4) :: st) :=
  xs_call 4 (c_Tr_find ad cA s root key) rfl rfl d hw hR rfl rfl rfl hst ⟨Nat.zero_le _, Nat.zero_le _⟩ kk
abbrev R_Tr_over : Room := { frames := 0, cells := 0, slots := 0, locals := 0 }
set_option maxHeartbeats 4000000 in
set_option maxRecDepth 100000 in
theorem c_Tr_over (ad : Nat → Nat) (cA : ClassId) (s : zT) (a : zS) : xct cA yX2_heightOver cX2_heightOver 4 (some .int) R_Tr_over [.ref (ad 4), .int (zs a)] (wd ad cA s) (some (.int (mTr_over s a))) (wd ad cA (s)) := by
  refine xct_of (own := RX2) (by decide) rfl (Nat.le_of_ble_eq_true rfl) (fun X hX => ?_)
  show xs X cA RX2 cX2_heightOver 4 (some .int) R_Tr_over (wd ad cA s) 0 0 0 [(0, .ref (ad 4)), (1, .int (zs a))] []
  refine xs_aload_n 0 dX2_heightOver_0 rfl ?_
  refine g_Tr_heights dX2_heightOver_1 ?_
  refine xs_aload_n 0 dX2_heightOver_4 rfl ?_
  refine g_Tr_left dX2_heightOver_5 ?_
  refine xs_iload_n 1 dX2_heightOver_8 rfl ?_
  refine al_S6 dX2_heightOver_9 ?_
  refine al_I1 dX2_heightOver_10 ?_
  refine xs_istore_n (L' := [(2, _), (0, _), (1, _)]) dX2_heightOver_11 (by decide) rfl ?_
  refine xs_aload_n 1 dX2_heightOver_12 rfl ?_
  refine g_Tr_heights dX2_heightOver_13 ?_
  refine xs_aload_n 1 dX2_heightOver_16 rfl ?_
  refine g_Tr_right dX2_heightOver_17 ?_
  refine xs_iload_n 2 dX2_heightOver_20 rfl ?_
  refine al_S7 dX2_heightOver_21 ?_
  refine al_I1 dX2_heightOver_22 ?_
  refine xs_istore_n (L' := [(3, _), (2, _), (0, _), (1, _)]) dX2_heightOver_23 (by decide) rfl ?_
  refine xs_iconst (v := 1) dX2_heightOver_24 (by decide) ?_
  refine xs_iload_n 1 dX2_heightOver_25 rfl ?_
  refine xs_iload_n 0 dX2_heightOver_26 rfl ?_
  refine xs_icmp_lt (t := 34) dX2_heightOver_27 (by decide) (fun c27 => ?_) (fun c27 => ?_)
  · refine xs_iload_n 0 dX2_heightOver_34 rfl ?_
    refine xs_iadd dX2_heightOver_35 ?_
    exact xs_iret hX rfl dX2_heightOver_36 (by simp only [mTr_over, if_pos c27]) rfl
  · refine xs_iload_n 1 dX2_heightOver_30 rfl ?_
    refine xs_goto (t := 35) dX2_heightOver_31 (by decide) ?_
    refine xs_iadd dX2_heightOver_35 ?_
    exact xs_iret hX rfl dX2_heightOver_36 (by simp only [mTr_over, if_neg c27]) rfl
theorem k_Tr_over {X : xz_X} {cA : ClassId} {own : String} {ad : Nat → Nat} {cc : ByteArray} {nL : Nat} {ret : Option FieldType} {R : Room} {s : zT} {pc ix : Nat} {L : List (Nat × Value)} {st : List Value} {a : zS} (d : decode cc pc = .ok (.invokevirtual ix, 3)) (hw : xwV own ix yX2_heightOver cX2_heightOver 4 (some .int) 1) (hR : xroom R_Tr_over 4 R) (hst : (st.map fun v => v.category).sum ≤ 8) (kk : xs X cA own cc nL ret R (wd ad cA (s)) 0 0 (pc + 3) L (.int (mTr_over s a) :: st)) : xs X cA own cc nL ret R (wd ad cA s) 0 0 pc L (.int (zs a) :: .ref (ad 4) :: st) :=
  xs_call 4 (c_Tr_over ad cA s a) rfl rfl d hw hR rfl rfl rfl hst ⟨Nat.zero_le _, Nat.zero_le _⟩ kk
abbrev R_Tr_liftL : Room := { frames := 0, cells := 0, slots := 0, locals := 0 }
set_option maxHeartbeats 4000000 in
set_option maxRecDepth 100000 in
theorem c_Tr_liftL (ad : Nat → Nat) (cA : ClassId) (s : zT) (t : zS) : xct cA yX2_liftFromLeft cX2_liftFromLeft 4 (some .int) R_Tr_liftL [.ref (ad 4), .int (zs t)] (wd ad cA s) (some (.int (zs ((mTr_liftL s t).1)))) (wd ad cA ((mTr_liftL s t).2)) := by
  refine xct_of (own := RX2) (by decide) rfl (Nat.le_of_ble_eq_true rfl) (fun X hX => ?_)
  show xs X cA RX2 cX2_liftFromLeft 4 (some .int) R_Tr_liftL (wd ad cA s) 0 0 0 [(0, .ref (ad 4)), (1, .int (zs t))] []
  refine xs_aload_n 0 dX2_liftFromLeft_0 rfl ?_
  refine g_Tr_left dX2_liftFromLeft_1 ?_
  refine xs_iload_n 1 dX2_liftFromLeft_4 rfl ?_
  refine al_S6 dX2_liftFromLeft_5 ?_
  refine xs_istore_n (L' := [(2, _), (0, _), (1, _)]) dX2_liftFromLeft_6 (by decide) rfl ?_
  refine xs_iload_n 0 dX2_liftFromLeft_7 rfl ?_
  refine xs_istore_n (L' := [(3, _), (2, _), (0, _), (1, _)]) dX2_liftFromLeft_8 (by decide) rfl ?_
  refine xs_aload_n 2 dX2_liftFromLeft_9 rfl ?_
  refine g_Tr_heights dX2_liftFromLeft_10 ?_
  refine xs_aload_n 2 dX2_liftFromLeft_13 rfl ?_
  refine g_Tr_left dX2_liftFromLeft_14 ?_
  refine xs_iload_n 1 dX2_liftFromLeft_17 rfl ?_
  refine al_S6 dX2_liftFromLeft_18 ?_
  refine al_I1 dX2_liftFromLeft_19 ?_
  refine xs_aload_n 2 dX2_liftFromLeft_20 rfl ?_
  refine g_Tr_heights dX2_liftFromLeft_21 ?_
  refine xs_aload_n 2 dX2_liftFromLeft_24 rfl ?_
  refine g_Tr_right dX2_liftFromLeft_25 ?_
  refine xs_iload_n 1 dX2_liftFromLeft_28 rfl ?_
  refine al_S7 dX2_liftFromLeft_29 ?_
  refine al_I1 dX2_liftFromLeft_30 ?_
  refine xs_icmp_ge (t := 60) dX2_liftFromLeft_31 (by decide) (fun c31 => ?_) (fun c31 => ?_)
  · refine xs_aload_n 2 dX2_liftFromLeft_60 rfl ?_
    refine g_Tr_left dX2_liftFromLeft_61 ?_
    refine xs_iload_n 3 dX2_liftFromLeft_64 rfl ?_
    refine xs_aload_n 2 dX2_liftFromLeft_65 rfl ?_
    refine g_Tr_right dX2_liftFromLeft_66 ?_
    refine xs_iload_n 0 dX2_liftFromLeft_69 rfl ?_
    refine al_S7 dX2_liftFromLeft_70 ?_
    refine as_S6 dX2_liftFromLeft_71 ?_
    refine xs_aload_n 2 dX2_liftFromLeft_72 rfl ?_
    refine g_Tr_right dX2_liftFromLeft_73 ?_
    refine xs_iload_n 0 dX2_liftFromLeft_76 rfl ?_
    refine xs_iload_n 3 dX2_liftFromLeft_77 rfl ?_
    refine as_S7 dX2_liftFromLeft_78 ?_
    refine xs_iload_n 0 dX2_liftFromLeft_79 rfl ?_
    exact xs_iret hX rfl dX2_liftFromLeft_80 (by simp only [mTr_liftL, if_pos c31]) (by simp only [mTr_liftL, if_pos c31])
  · refine xs_aload_n 2 dX2_liftFromLeft_34 rfl ?_
    refine g_Tr_right dX2_liftFromLeft_35 ?_
    refine xs_iload_n 1 dX2_liftFromLeft_38 rfl ?_
    refine al_S7 dX2_liftFromLeft_39 ?_
    refine xs_istore_n (L' := [(3, _), (2, _), (0, _), (1, _)]) dX2_liftFromLeft_40 (by decide) rfl ?_
    refine xs_aload_n 2 dX2_liftFromLeft_41 rfl ?_
    refine g_Tr_right dX2_liftFromLeft_42 ?_
    refine xs_iload_n 1 dX2_liftFromLeft_45 rfl ?_
    refine xs_aload_n 2 dX2_liftFromLeft_46 rfl ?_
    refine g_Tr_left dX2_liftFromLeft_47 ?_
    refine xs_iload_n 0 dX2_liftFromLeft_50 rfl ?_
    refine al_S6 dX2_liftFromLeft_51 ?_
    refine as_S7 dX2_liftFromLeft_52 ?_
    refine xs_aload_n 2 dX2_liftFromLeft_53 rfl ?_
    refine g_Tr_left dX2_liftFromLeft_54 ?_
    refine xs_iload_n 0 dX2_liftFromLeft_57 rfl ?_
    refine xs_iload_n 1 dX2_liftFromLeft_58 rfl ?_
    refine as_S6 dX2_liftFromLeft_59 ?_
    refine xs_aload_n 2 dX2_liftFromLeft_60 rfl ?_
    refine g_Tr_left dX2_liftFromLeft_61 ?_
    refine xs_iload_n 3 dX2_liftFromLeft_64 rfl ?_
    refine xs_aload_n 2 dX2_liftFromLeft_65 rfl ?_
    refine g_Tr_right dX2_liftFromLeft_66 ?_
    refine xs_iload_n 0 dX2_liftFromLeft_69 rfl ?_
    refine al_S7 dX2_liftFromLeft_70 ?_
    refine as_S6 dX2_liftFromLeft_71 ?_
    refine xs_aload_n 2 dX2_liftFromLeft_72 rfl ?_
    refine g_Tr_right dX2_liftFromLeft_73 ?_
    refine xs_iload_n 0 dX2_liftFromLeft_76 rfl ?_
    refine xs_iload_n 3 dX2_liftFromLeft_77 rfl ?_
    refine as_S7 dX2_liftFromLeft_78 ?_
    refine xs_iload_n 0 dX2_liftFromLeft_79 rfl ?_
    exact xs_iret hX rfl dX2_liftFromLeft_80 (by simp only [mTr_liftL, if_neg c31]) (by simp only [mTr_liftL, if_neg c31])
theorem k_Tr_liftL {X : xz_X} {cA : ClassId} {own : String} {ad : Nat → Nat} {cc : ByteArray} {nL : Nat} {ret : Option FieldType} {R : Room} {s : zT} {pc ix : Nat} {L : List (Nat × Value)} {st : List Value} {t : zS} (d : decode cc pc = .ok (.invokevirtual ix, 3)) (hw : xwV own ix yX2_liftFromLeft cX2_liftFromLeft 4 (some .int) 1) (hR : xroom R_Tr_liftL 4 R) (hst : (st.map fun v => v.category).sum ≤ 8) (kk : xs X cA own cc nL ret R (wd ad cA ((mTr_liftL s t).2)) 0 0 (pc + 3) L (.int (zs ((mTr_liftL s t).1)) :: st)) : xs X cA own cc nL ret R (wd ad cA s) 0 0 pc L (.int (zs t) :: .ref (ad 4) :: st) :=
  xs_call 4 (c_Tr_liftL ad cA s t) rfl rfl d hw hR rfl rfl rfl hst ⟨Nat.zero_le _, Nat.zero_le _⟩ kk
abbrev R_Tr_liftR : Room := { frames := 0, cells := 0, slots := 0, locals := 0 }
set_option maxHeartbeats 4000000 in
set_option maxRecDepth 100000 in
theorem c_Tr_liftR (ad : Nat → Nat) (cA : ClassId) (s : zT) (t : zS) : xct cA yX2_liftFromRight cX2_liftFromRight 4 (some .int) R_Tr_liftR [.ref (ad 4), .int (zs t)] (wd ad cA s) (some (.int (zs ((mTr_liftR s t).1)))) (wd ad cA ((mTr_liftR s t).2)) := by
  refine xct_of (own := RX2) (by decide) rfl (Nat.le_of_ble_eq_true rfl) (fun X hX => ?_)
  show xs X cA RX2 cX2_liftFromRight 4 (some .int) R_Tr_liftR (wd ad cA s) 0 0 0 [(0, .ref (ad 4)), (1, .int (zs t))] []
  refine xs_aload_n 0 dX2_liftFromRight_0 rfl ?_
  refine g_Tr_right dX2_liftFromRight_1 ?_
  refine xs_iload_n 1 dX2_liftFromRight_4 rfl ?_
  refine al_S7 dX2_liftFromRight_5 ?_
  refine xs_istore_n (L' := [(2, _), (0, _), (1, _)]) dX2_liftFromRight_6 (by decide) rfl ?_
  refine xs_iload_n 0 dX2_liftFromRight_7 rfl ?_
  refine xs_istore_n (L' := [(3, _), (2, _), (0, _), (1, _)]) dX2_liftFromRight_8 (by decide) rfl ?_
  refine xs_aload_n 2 dX2_liftFromRight_9 rfl ?_
  refine g_Tr_heights dX2_liftFromRight_10 ?_
  refine xs_aload_n 2 dX2_liftFromRight_13 rfl ?_
  refine g_Tr_right dX2_liftFromRight_14 ?_
  refine xs_iload_n 1 dX2_liftFromRight_17 rfl ?_
  refine al_S7 dX2_liftFromRight_18 ?_
  refine al_I1 dX2_liftFromRight_19 ?_
  refine xs_aload_n 2 dX2_liftFromRight_20 rfl ?_
  refine g_Tr_heights dX2_liftFromRight_21 ?_
  refine xs_aload_n 2 dX2_liftFromRight_24 rfl ?_
  refine g_Tr_left dX2_liftFromRight_25 ?_
  refine xs_iload_n 1 dX2_liftFromRight_28 rfl ?_
  refine al_S6 dX2_liftFromRight_29 ?_
  refine al_I1 dX2_liftFromRight_30 ?_
  refine xs_icmp_ge (t := 60) dX2_liftFromRight_31 (by decide) (fun c31 => ?_) (fun c31 => ?_)
  · refine xs_aload_n 2 dX2_liftFromRight_60 rfl ?_
    refine g_Tr_right dX2_liftFromRight_61 ?_
    refine xs_iload_n 3 dX2_liftFromRight_64 rfl ?_
    refine xs_aload_n 2 dX2_liftFromRight_65 rfl ?_
    refine g_Tr_left dX2_liftFromRight_66 ?_
    refine xs_iload_n 0 dX2_liftFromRight_69 rfl ?_
    refine al_S6 dX2_liftFromRight_70 ?_
    refine as_S7 dX2_liftFromRight_71 ?_
    refine xs_aload_n 2 dX2_liftFromRight_72 rfl ?_
    refine g_Tr_left dX2_liftFromRight_73 ?_
    refine xs_iload_n 0 dX2_liftFromRight_76 rfl ?_
    refine xs_iload_n 3 dX2_liftFromRight_77 rfl ?_
    refine as_S6 dX2_liftFromRight_78 ?_
    refine xs_iload_n 0 dX2_liftFromRight_79 rfl ?_
    exact xs_iret hX rfl dX2_liftFromRight_80 (by simp only [mTr_liftR, if_pos c31]) (by simp only [mTr_liftR, if_pos c31])
  · refine xs_aload_n 2 dX2_liftFromRight_34 rfl ?_
    refine g_Tr_left dX2_liftFromRight_35 ?_
    refine xs_iload_n 1 dX2_liftFromRight_38 rfl ?_
    refine al_S6 dX2_liftFromRight_39 ?_
    refine xs_istore_n (L' := [(3, _), (2, _), (0, _), (1, _)]) dX2_liftFromRight_40 (by decide) rfl ?_
    refine xs_aload_n 2 dX2_liftFromRight_41 rfl ?_
    refine g_Tr_left dX2_liftFromRight_42 ?_
    refine xs_iload_n 1 dX2_liftFromRight_45 rfl ?_
    refine xs_aload_n 2 dX2_liftFromRight_46 rfl ?_
    refine g_Tr_right dX2_liftFromRight_47 ?_
    refine xs_iload_n 0 dX2_liftFromRight_50 rfl ?_
    refine al_S7 dX2_liftFromRight_51 ?_
    refine as_S6 dX2_liftFromRight_52 ?_
    refine xs_aload_n 2 dX2_liftFromRight_53 rfl ?_
    refine g_Tr_right dX2_liftFromRight_54 ?_
    refine xs_iload_n 0 dX2_liftFromRight_57 rfl ?_
    refine xs_iload_n 1 dX2_liftFromRight_58 rfl ?_
    refine as_S7 dX2_liftFromRight_59 ?_
    refine xs_aload_n 2 dX2_liftFromRight_60 rfl ?_
    refine g_Tr_right dX2_liftFromRight_61 ?_
    refine xs_iload_n 3 dX2_liftFromRight_64 rfl ?_
    refine xs_aload_n 2 dX2_liftFromRight_65 rfl ?_
    refine g_Tr_left dX2_liftFromRight_66 ?_
    refine xs_iload_n 0 dX2_liftFromRight_69 rfl ?_
    refine al_S6 dX2_liftFromRight_70 ?_
    refine as_S7 dX2_liftFromRight_71 ?_
    refine xs_aload_n 2 dX2_liftFromRight_72 rfl ?_
    refine g_Tr_left dX2_liftFromRight_73 ?_
    refine xs_iload_n 0 dX2_liftFromRight_76 rfl ?_
    refine xs_iload_n 3 dX2_liftFromRight_77 rfl ?_
    refine as_S6 dX2_liftFromRight_78 ?_
    refine xs_iload_n 0 dX2_liftFromRight_79 rfl ?_
    exact xs_iret hX rfl dX2_liftFromRight_80 (by simp only [mTr_liftR, if_neg c31]) (by simp only [mTr_liftR, if_neg c31])
theorem k_Tr_liftR {X : xz_X} {cA : ClassId} {own : String} {ad : Nat → Nat} {cc : ByteArray} {nL : Nat} {ret : Option FieldType} {R : Room} {s : zT} {pc ix : Nat} {L : List (Nat × Value)} {st : List Value} {t : zS} (d : decode cc pc = .ok (.invokevirtual ix, 3)) (hw : xwV own ix yX2_liftFromRight cX2_liftFromRight 4 (some .int) 1) (hR : xroom R_Tr_liftR 4 R) (hst : (st.map fun v => v.category).sum ≤ 8) (kk : xs X cA own cc nL ret R (wd ad cA ((mTr_liftR s t).2)) 0 0 (pc + 3) L (.int (zs ((mTr_liftR s t).1)) :: st)) : xs X cA own cc nL ret R (wd ad cA s) 0 0 pc L (.int (zs t) :: .ref (ad 4) :: st) :=
  xs_call 4 (c_Tr_liftR ad cA s t) rfl rfl d hw hR rfl rfl rfl hst ⟨Nat.zero_le _, Nat.zero_le _⟩ kk
abbrev R_Tr_bal : Room := { frames := 1, cells := 0, slots := 0, locals := 23 }
set_option maxRecDepth 100000 in
theorem kw_Tr_Tr_over : xwV RX2 35 yX2_heightOver cX2_heightOver 4 (some .int) 1 := ⟨⟨xt_of (List.mem_of_getElem? (i := 273) rfl) rfl, xt_of (by decide +kernel) rfl, xt_of (by decide +kernel) rfl, by decide +kernel⟩, xt_of (by decide +kernel) rfl, xt_of (by decide +kernel) rfl⟩
set_option maxRecDepth 100000 in
theorem kw_Tr_Tr_liftL : xwV RX2 42 yX2_liftFromLeft cX2_liftFromLeft 4 (some .int) 1 := ⟨⟨xt_of (List.mem_of_getElem? (i := 455) rfl) rfl, xt_of (by decide +kernel) rfl, xt_of (by decide +kernel) rfl, by decide +kernel⟩, xt_of (by decide +kernel) rfl, xt_of (by decide +kernel) rfl⟩
set_option maxRecDepth 100000 in
theorem kw_Tr_Tr_liftR : xwV RX2 45 yX2_liftFromRight cX2_liftFromRight 4 (some .int) 1 := ⟨⟨xt_of (List.mem_of_getElem? (i := 459) rfl) rfl, xt_of (by decide +kernel) rfl, xt_of (by decide +kernel) rfl, by decide +kernel⟩, xt_of (by decide +kernel) rfl, xt_of (by decide +kernel) rfl⟩
set_option maxHeartbeats 4000000 in
set_option maxRecDepth 100000 in
theorem c_Tr_bal (ad : Nat → Nat) (cA : ClassId) (s : zT) (t : zS) : xct cA yX2_balance cX2_balance 4 (some .int) R_Tr_bal [.ref (ad 4), .int (zs t)] (wd ad cA s) (some (.int (zs ((mTr_bal s t).1)))) (wd ad cA ((mTr_bal s t).2)) := by
  refine xct_of (own := RX2) (by decide) rfl (Nat.le_of_ble_eq_true rfl) (fun X hX => ?_)
  show xs X cA RX2 cX2_balance 4 (some .int) R_Tr_bal (wd ad cA s) 0 0 0 [(0, .ref (ad 4)), (1, .int (zs t))] []
  refine xs_aload_n 0 dX2_balance_0 rfl ?_
  refine g_Tr_heights dX2_balance_1 ?_
  refine xs_aload_n 0 dX2_balance_4 rfl ?_
  refine g_Tr_left dX2_balance_5 ?_
  refine xs_iload_n 1 dX2_balance_8 rfl ?_
  refine al_S6 dX2_balance_9 ?_
  refine al_I1 dX2_balance_10 ?_
  refine xs_aload_n 0 dX2_balance_11 rfl ?_
  refine g_Tr_heights dX2_balance_12 ?_
  refine xs_aload_n 0 dX2_balance_15 rfl ?_
  refine g_Tr_right dX2_balance_16 ?_
  refine xs_iload_n 1 dX2_balance_19 rfl ?_
  refine al_S7 dX2_balance_20 ?_
  refine al_I1 dX2_balance_21 ?_
  refine xs_isub dX2_balance_22 ?_
  refine xs_istore_n (L' := [(2, _), (0, _), (1, _)]) dX2_balance_23 (by decide) rfl ?_
  refine xs_iload_n 0 dX2_balance_24 rfl ?_
  refine xs_iconst (v := (-1)) dX2_balance_25 (by decide) ?_
  refine xs_icmp_lt (t := 47) dX2_balance_26 (by decide) (fun c26 => ?_) (fun c26 => ?_)
  · refine xs_iload_n 0 dX2_balance_47 rfl ?_
    refine xs_iconst (v := 1) dX2_balance_48 (by decide) ?_
    refine xs_icmp_le (t := 60) dX2_balance_49 (by decide) (fun c49 => ?_) (fun c49 => ?_)
    · refine xs_aload_n 1 dX2_balance_60 rfl ?_
      refine xs_iload_n 2 dX2_balance_61 rfl ?_
      refine k_Tr_liftR dX2_balance_62 kw_Tr_Tr_liftR (by decide) (Nat.le_of_ble_eq_true rfl) ?_
      refine xs_istore_n (L' := [(3, _), (2, _), (0, _), (1, _)]) dX2_balance_65 (by decide) rfl ?_
      refine xs_aload_n 2 dX2_balance_66 rfl ?_
      refine g_Tr_heights dX2_balance_67 ?_
      refine xs_aload_n 2 dX2_balance_70 rfl ?_
      refine g_Tr_left dX2_balance_71 ?_
      refine xs_iload_n 0 dX2_balance_74 rfl ?_
      refine al_S6 dX2_balance_75 ?_
      refine xs_aload_n 2 dX2_balance_76 rfl ?_
      refine xs_aload_n 2 dX2_balance_77 rfl ?_
      refine g_Tr_left dX2_balance_78 ?_
      refine xs_iload_n 0 dX2_balance_81 rfl ?_
      refine al_S6 dX2_balance_82 ?_
      refine k_Tr_over dX2_balance_83 kw_Tr_Tr_over (by decide) (Nat.le_of_ble_eq_true rfl) ?_
      refine as_I1 dX2_balance_86 ?_
      refine xs_aload_n 2 dX2_balance_87 rfl ?_
      refine g_Tr_heights dX2_balance_88 ?_
      refine xs_aload_n 2 dX2_balance_91 rfl ?_
      refine g_Tr_right dX2_balance_92 ?_
      refine xs_iload_n 0 dX2_balance_95 rfl ?_
      refine al_S7 dX2_balance_96 ?_
      refine xs_aload_n 2 dX2_balance_97 rfl ?_
      refine xs_aload_n 2 dX2_balance_98 rfl ?_
      refine g_Tr_right dX2_balance_99 ?_
      refine xs_iload_n 0 dX2_balance_102 rfl ?_
      refine al_S7 dX2_balance_103 ?_
      refine k_Tr_over dX2_balance_104 kw_Tr_Tr_over (by decide) (Nat.le_of_ble_eq_true rfl) ?_
      refine as_I1 dX2_balance_107 ?_
      refine xs_aload_n 2 dX2_balance_108 rfl ?_
      refine g_Tr_heights dX2_balance_109 ?_
      refine xs_iload_n 0 dX2_balance_112 rfl ?_
      refine xs_aload_n 2 dX2_balance_113 rfl ?_
      refine xs_iload_n 0 dX2_balance_114 rfl ?_
      refine k_Tr_over dX2_balance_115 kw_Tr_Tr_over (by decide) (Nat.le_of_ble_eq_true rfl) ?_
      refine as_I1 dX2_balance_118 ?_
      refine xs_iload_n 0 dX2_balance_119 rfl ?_
      exact xs_iret hX rfl dX2_balance_120 (by simp only [mTr_bal, mTr_bal2, if_pos c26, if_pos c49]) (by simp only [mTr_bal, mTr_bal2, if_pos c26, if_pos c49])
    · refine xs_aload_n 1 dX2_balance_52 rfl ?_
      refine xs_iload_n 2 dX2_balance_53 rfl ?_
      refine k_Tr_liftL dX2_balance_54 kw_Tr_Tr_liftL (by decide) (Nat.le_of_ble_eq_true rfl) ?_
      refine xs_goto (t := 65) dX2_balance_57 (by decide) ?_
      refine xs_istore_n (L' := [(3, _), (2, _), (0, _), (1, _)]) dX2_balance_65 (by decide) rfl ?_
      refine xs_aload_n 2 dX2_balance_66 rfl ?_
      refine g_Tr_heights dX2_balance_67 ?_
      refine xs_aload_n 2 dX2_balance_70 rfl ?_
      refine g_Tr_left dX2_balance_71 ?_
      refine xs_iload_n 0 dX2_balance_74 rfl ?_
      refine al_S6 dX2_balance_75 ?_
      refine xs_aload_n 2 dX2_balance_76 rfl ?_
      refine xs_aload_n 2 dX2_balance_77 rfl ?_
      refine g_Tr_left dX2_balance_78 ?_
      refine xs_iload_n 0 dX2_balance_81 rfl ?_
      refine al_S6 dX2_balance_82 ?_
      refine k_Tr_over dX2_balance_83 kw_Tr_Tr_over (by decide) (Nat.le_of_ble_eq_true rfl) ?_
      refine as_I1 dX2_balance_86 ?_
      refine xs_aload_n 2 dX2_balance_87 rfl ?_
      refine g_Tr_heights dX2_balance_88 ?_
      refine xs_aload_n 2 dX2_balance_91 rfl ?_
      refine g_Tr_right dX2_balance_92 ?_
      refine xs_iload_n 0 dX2_balance_95 rfl ?_
      refine al_S7 dX2_balance_96 ?_
      refine xs_aload_n 2 dX2_balance_97 rfl ?_
      refine xs_aload_n 2 dX2_balance_98 rfl ?_
      refine g_Tr_right dX2_balance_99 ?_
      refine xs_iload_n 0 dX2_balance_102 rfl ?_
      refine al_S7 dX2_balance_103 ?_
      refine k_Tr_over dX2_balance_104 kw_Tr_Tr_over (by decide) (Nat.le_of_ble_eq_true rfl) ?_
      refine as_I1 dX2_balance_107 ?_
      refine xs_aload_n 2 dX2_balance_108 rfl ?_
      refine g_Tr_heights dX2_balance_109 ?_
      refine xs_iload_n 0 dX2_balance_112 rfl ?_
      refine xs_aload_n 2 dX2_balance_113 rfl ?_
      refine xs_iload_n 0 dX2_balance_114 rfl ?_
      refine k_Tr_over dX2_balance_115 kw_Tr_Tr_over (by decide) (Nat.le_of_ble_eq_true rfl) ?_
      refine as_I1 dX2_balance_118 ?_
      refine xs_iload_n 0 dX2_balance_119 rfl ?_
      exact xs_iret hX rfl dX2_balance_120 (by simp only [mTr_bal, mTr_bal2, if_pos c26, if_neg c49]) (by simp only [mTr_bal, mTr_bal2, if_pos c26, if_neg c49])
  · refine xs_iload_n 0 dX2_balance_29 rfl ?_
    refine xs_iconst (v := 1) dX2_balance_30 (by decide) ?_
    refine xs_icmp_gt (t := 47) dX2_balance_31 (by decide) (fun c31 => ?_) (fun c31 => ?_)
    · refine xs_iload_n 0 dX2_balance_47 rfl ?_
      refine xs_iconst (v := 1) dX2_balance_48 (by decide) ?_
      refine xs_icmp_le (t := 60) dX2_balance_49 (by decide) (fun c49 => ?_) (fun c49 => ?_)
      · refine xs_aload_n 1 dX2_balance_60 rfl ?_
        refine xs_iload_n 2 dX2_balance_61 rfl ?_
        refine k_Tr_liftR dX2_balance_62 kw_Tr_Tr_liftR (by decide) (Nat.le_of_ble_eq_true rfl) ?_
        refine xs_istore_n (L' := [(3, _), (2, _), (0, _), (1, _)]) dX2_balance_65 (by decide) rfl ?_
        refine xs_aload_n 2 dX2_balance_66 rfl ?_
        refine g_Tr_heights dX2_balance_67 ?_
        refine xs_aload_n 2 dX2_balance_70 rfl ?_
        refine g_Tr_left dX2_balance_71 ?_
        refine xs_iload_n 0 dX2_balance_74 rfl ?_
        refine al_S6 dX2_balance_75 ?_
        refine xs_aload_n 2 dX2_balance_76 rfl ?_
        refine xs_aload_n 2 dX2_balance_77 rfl ?_
        refine g_Tr_left dX2_balance_78 ?_
        refine xs_iload_n 0 dX2_balance_81 rfl ?_
        refine al_S6 dX2_balance_82 ?_
        refine k_Tr_over dX2_balance_83 kw_Tr_Tr_over (by decide) (Nat.le_of_ble_eq_true rfl) ?_
        refine as_I1 dX2_balance_86 ?_
        refine xs_aload_n 2 dX2_balance_87 rfl ?_
        refine g_Tr_heights dX2_balance_88 ?_
        refine xs_aload_n 2 dX2_balance_91 rfl ?_
        refine g_Tr_right dX2_balance_92 ?_
        refine xs_iload_n 0 dX2_balance_95 rfl ?_
        refine al_S7 dX2_balance_96 ?_
        refine xs_aload_n 2 dX2_balance_97 rfl ?_
        refine xs_aload_n 2 dX2_balance_98 rfl ?_
        refine g_Tr_right dX2_balance_99 ?_
        refine xs_iload_n 0 dX2_balance_102 rfl ?_
        refine al_S7 dX2_balance_103 ?_
        refine k_Tr_over dX2_balance_104 kw_Tr_Tr_over (by decide) (Nat.le_of_ble_eq_true rfl) ?_
        refine as_I1 dX2_balance_107 ?_
        refine xs_aload_n 2 dX2_balance_108 rfl ?_
        refine g_Tr_heights dX2_balance_109 ?_
        refine xs_iload_n 0 dX2_balance_112 rfl ?_
        refine xs_aload_n 2 dX2_balance_113 rfl ?_
        refine xs_iload_n 0 dX2_balance_114 rfl ?_
        refine k_Tr_over dX2_balance_115 kw_Tr_Tr_over (by decide) (Nat.le_of_ble_eq_true rfl) ?_
        refine as_I1 dX2_balance_118 ?_
        refine xs_iload_n 0 dX2_balance_119 rfl ?_
        exact xs_iret hX rfl dX2_balance_120 (by simp only [mTr_bal, mTr_bal2, if_neg c26, if_pos c31, if_pos c49]) (by simp only [mTr_bal, mTr_bal2, if_neg c26, if_pos c31, if_pos c49])
      · refine xs_aload_n 1 dX2_balance_52 rfl ?_
        refine xs_iload_n 2 dX2_balance_53 rfl ?_
        refine k_Tr_liftL dX2_balance_54 kw_Tr_Tr_liftL (by decide) (Nat.le_of_ble_eq_true rfl) ?_
        refine xs_goto (t := 65) dX2_balance_57 (by decide) ?_
        refine xs_istore_n (L' := [(3, _), (2, _), (0, _), (1, _)]) dX2_balance_65 (by decide) rfl ?_
        refine xs_aload_n 2 dX2_balance_66 rfl ?_
        refine g_Tr_heights dX2_balance_67 ?_
        refine xs_aload_n 2 dX2_balance_70 rfl ?_
        refine g_Tr_left dX2_balance_71 ?_
        refine xs_iload_n 0 dX2_balance_74 rfl ?_
        refine al_S6 dX2_balance_75 ?_
        refine xs_aload_n 2 dX2_balance_76 rfl ?_
        refine xs_aload_n 2 dX2_balance_77 rfl ?_
        refine g_Tr_left dX2_balance_78 ?_
        refine xs_iload_n 0 dX2_balance_81 rfl ?_
        refine al_S6 dX2_balance_82 ?_
        refine k_Tr_over dX2_balance_83 kw_Tr_Tr_over (by decide) (Nat.le_of_ble_eq_true rfl) ?_
        refine as_I1 dX2_balance_86 ?_
        refine xs_aload_n 2 dX2_balance_87 rfl ?_
        refine g_Tr_heights dX2_balance_88 ?_
        refine xs_aload_n 2 dX2_balance_91 rfl ?_
        refine g_Tr_right dX2_balance_92 ?_
        refine xs_iload_n 0 dX2_balance_95 rfl ?_
        refine al_S7 dX2_balance_96 ?_
        refine xs_aload_n 2 dX2_balance_97 rfl ?_
        refine xs_aload_n 2 dX2_balance_98 rfl ?_
        refine g_Tr_right dX2_balance_99 ?_
        refine xs_iload_n 0 dX2_balance_102 rfl ?_
        refine al_S7 dX2_balance_103 ?_
        refine k_Tr_over dX2_balance_104 kw_Tr_Tr_over (by decide) (Nat.le_of_ble_eq_true rfl) ?_
        refine as_I1 dX2_balance_107 ?_
        refine xs_aload_n 2 dX2_balance_108 rfl ?_
        refine g_Tr_heights dX2_balance_109 ?_
        refine xs_iload_n 0 dX2_balance_112 rfl ?_
        refine xs_aload_n 2 dX2_balance_113 rfl ?_
        refine xs_iload_n 0 dX2_balance_114 rfl ?_
        refine k_Tr_over dX2_balance_115 kw_Tr_Tr_over (by decide) (Nat.le_of_ble_eq_true rfl) ?_
        refine as_I1 dX2_balance_118 ?_
        refine xs_iload_n 0 dX2_balance_119 rfl ?_
        exact xs_iret hX rfl dX2_balance_120 (by simp only [mTr_bal, mTr_bal2, if_neg c26, if_pos c31, if_neg c49]) (by simp only [mTr_bal, mTr_bal2, if_neg c26, if_pos c31, if_neg c49])
    · refine xs_aload_n 1 dX2_balance_34 rfl ?_
      refine g_Tr_heights dX2_balance_35 ?_
      refine xs_iload_n 2 dX2_balance_38 rfl ?_
      refine xs_aload_n 1 dX2_balance_39 rfl ?_
      refine xs_iload_n 2 dX2_balance_40 rfl ?_
      refine k_Tr_over dX2_balance_41 kw_Tr_Tr_over (by decide) (Nat.le_of_ble_eq_true rfl) ?_
      refine as_I1 dX2_balance_44 ?_
      refine xs_iload_n 2 dX2_balance_45 rfl ?_
      exact xs_iret hX rfl dX2_balance_46 (by simp only [mTr_bal, mTr_bal2, if_neg c26, if_neg c31]) (by simp only [mTr_bal, mTr_bal2, if_neg c26, if_neg c31])
theorem k_Tr_bal {X : xz_X} {cA : ClassId} {own : String} {ad : Nat → Nat} {cc : ByteArray} {nL : Nat} {ret : Option FieldType} {R : Room} {s : zT} {pc ix : Nat} {L : List (Nat × Value)} {st : List Value} {t : zS} (d : decode cc pc = .ok (.invokevirtual ix, 3)) (hw : xwV own ix yX2_balance cX2_balance 4 (some .int) 1) (hR : xroom R_Tr_bal 4 R) (hst : (st.map fun v => v.category).sum ≤ 8) (kk : xs X cA own cc nL ret R (wd ad cA ((mTr_bal s t).2)) 0 0 (pc + 3) L (.int (zs ((mTr_bal s t).1)) :: st)) : xs X cA own cc nL ret R (wd ad cA s) 0 0 pc L (.int (zs t) :: .ref (ad 4) :: st) :=
  xs_call 4 (c_Tr_bal ad cA s t) rfl rfl d hw hR rfl rfl rfl hst ⟨Nat.zero_le _, Nat.zero_le _⟩ kk
abbrev R_Tr_climb : Room := { frames := 2, cells := 0, slots := 0, locals := 46 }
set_option maxRecDepth 100000 in
theorem kw_Tr_Tr_bal : xwV RX2 39 yX2_balance cX2_balance 4 (some .int) 1 := ⟨⟨xt_of (List.mem_of_getElem? (i := 451) rfl) rfl, xt_of (by decide +kernel) rfl, xt_of (by decide +kernel) rfl, by decide +kernel⟩, xt_of (by decide +kernel) rfl, xt_of (by decide +kernel) rfl⟩
set_option maxHeartbeats 4000000 in
set_option maxRecDepth 100000 in
theorem t_Tr_climb {X : xz_X} {ad : Nat → Nat} {cA : ClassId} {key : Int32} : ∀ (n : Nat) (t : zS) (s : zT), n ≤ 40 → xfin X cA 0 0 (some (.int (zs ((mTr_climb key n t s).1)))) (wd ad cA ((mTr_climb key n t s).2)) → xs X cA RX2 cX2_climb 7 (some .int) R_Tr_climb (wd ad cA s) 0 0 8 [(5, .int (nI n - 1)), (4, .int (zs t)), (2, .int key), (0, .ref (ad 4))] [] := by
  intro n
  induction n with
  | zero =>
    intro t s hn hX
    refine xs_iload 0 dX2_climb_8 rfl ?_
    refine xs_if_lt (t := 68) dX2_climb_10 (by decide) (fun c10 => ?_) (fun c10 => ?_)
    · refine xs_iload 1 dX2_climb_68 rfl ?_
      exact xs_iret hX rfl dX2_climb_70 rfl rfl
    · exact absurd (show nI 0 - 1 < 0 by decide) c10
  | succ n ih =>
    intro t s hn hX
    rw [nI_pred n]
    refine xs_iload 0 dX2_climb_8 rfl ?_
    refine xs_if_lt (t := 68) dX2_climb_10 (by decide) (fun c10 => ?_) (fun c10 => ?_)
    · exact absurd c10 (nI_pos (by omega))
    · refine xs_aload_n 3 dX2_climb_13 rfl ?_
      refine g_Tr_path dX2_climb_14 ?_
      refine xs_iload 0 dX2_climb_17 rfl ?_
      refine aln_S8 dX2_climb_19 (by omega) ?_
      refine xs_istore (L' := [(6, _), (5, _), (4, _), (2, _), (0, _)]) dX2_climb_20 (by decide) rfl ?_
      refine xs_iload_n 3 dX2_climb_22 rfl ?_
      refine xs_aload_n 4 dX2_climb_23 rfl ?_
      refine g_Tr_keys dX2_climb_24 ?_
      refine xs_iload 0 dX2_climb_27 rfl ?_
      refine al_I0 dX2_climb_29 ?_
      refine xs_icmp_ge (t := 45) dX2_climb_30 (by decide) (fun c30 => ?_) (fun c30 => ?_)
      · refine xs_aload_n 4 dX2_climb_45 rfl ?_
        refine g_Tr_right dX2_climb_46 ?_
        refine xs_iload 0 dX2_climb_49 rfl ?_
        refine xs_iload 2 dX2_climb_51 rfl ?_
        refine as_S7 dX2_climb_53 ?_
        refine xs_aload_n 4 dX2_climb_54 rfl ?_
        refine xs_iload 0 dX2_climb_55 rfl ?_
        refine k_Tr_bal dX2_climb_57 kw_Tr_Tr_bal (by decide) (Nat.le_of_ble_eq_true rfl) ?_
        refine xs_istore (L' := [(4, _), (6, _), (5, _), (2, _), (0, _)]) dX2_climb_60 (by decide) rfl ?_
        refine xs_iinc_p (L' := [(5, _), (4, _), (6, _), (2, _), (0, _)]) 2 dX2_climb_62 rfl (by decide) rfl ?_
        refine xs_goto (t := 8) dX2_climb_65 (by decide) ?_
        refine xs_sub (L' := [(5, _), (4, _), (2, _), (0, _)]) [0, 1, 3, 4] rfl ?_
        exact ih _ _ (by omega) (by simp only [mTr_climb, if_neg c10, if_pos c30] at hX; exact hX)
      · refine xs_aload_n 4 dX2_climb_33 rfl ?_
        refine g_Tr_left dX2_climb_34 ?_
        refine xs_iload 0 dX2_climb_37 rfl ?_
        refine xs_iload 2 dX2_climb_39 rfl ?_
        refine as_S6 dX2_climb_41 ?_
        refine xs_goto (t := 54) dX2_climb_42 (by decide) ?_
        refine xs_aload_n 4 dX2_climb_54 rfl ?_
        refine xs_iload 0 dX2_climb_55 rfl ?_
        refine k_Tr_bal dX2_climb_57 kw_Tr_Tr_bal (by decide) (Nat.le_of_ble_eq_true rfl) ?_
        refine xs_istore (L' := [(4, _), (6, _), (5, _), (2, _), (0, _)]) dX2_climb_60 (by decide) rfl ?_
        refine xs_iinc_p (L' := [(5, _), (4, _), (6, _), (2, _), (0, _)]) 2 dX2_climb_62 rfl (by decide) rfl ?_
        refine xs_goto (t := 8) dX2_climb_65 (by decide) ?_
        refine xs_sub (L' := [(5, _), (4, _), (2, _), (0, _)]) [0, 1, 3, 4] rfl ?_
        exact ih _ _ (by omega) (by simp only [mTr_climb, if_neg c10, if_neg c30] at hX; exact hX)
set_option maxHeartbeats 4000000 in
set_option maxRecDepth 100000 in
theorem c_Tr_climb (ad : Nat → Nat) (cA : ClassId) (s : zT) (dp : Nat) (key : Int32) (t : zS) (hd : dp ≤ 40) : xct cA yX2_climb cX2_climb 7 (some .int) R_Tr_climb [.ref (ad 4), .int (nI dp), .int key, .int (zs t)] (wd ad cA s) (some (.int (zs ((mTr_climb key dp t s).1)))) (wd ad cA ((mTr_climb key dp t s).2)) := by
  refine xct_of (own := RX2) (by decide) rfl (Nat.le_of_ble_eq_true rfl) (fun X hX => ?_)
  show xs X cA RX2 cX2_climb 7 (some .int) R_Tr_climb (wd ad cA s) 0 0 0 [(0, .ref (ad 4)), (1, .int (nI dp)), (2, .int key), (3, .int (zs t))] []
  refine xs_iload_n 3 dX2_climb_0 rfl ?_
  refine xs_istore (L' := [(4, _), (0, _), (1, _), (2, _), (3, _)]) dX2_climb_1 (by decide) rfl ?_
  refine xs_iload_n 2 dX2_climb_3 rfl ?_
  refine xs_iconst (v := 1) dX2_climb_4 (by decide) ?_
  refine xs_isub dX2_climb_5 ?_
  refine xs_istore (L' := [(5, _), (4, _), (0, _), (1, _), (2, _), (3, _)]) dX2_climb_6 (by decide) rfl ?_
  refine xs_sub (L' := [(5, _), (4, _), (2, _), (0, _)]) [0, 1, 4, 2] rfl ?_
  exact t_Tr_climb dp _ _ hd hX
theorem k_Tr_climb {X : xz_X} {cA : ClassId} {own : String} {ad : Nat → Nat} {cc : ByteArray} {nL : Nat} {ret : Option FieldType} {R : Room} {s : zT} {pc ix : Nat} {L : List (Nat × Value)} {st : List Value} {dp : Nat} {key : Int32} {t : zS} (d : decode cc pc = .ok (.invokevirtual ix, 3)) (hw : xwV own ix yX2_climb cX2_climb 7 (some .int) 3) (hR : xroom R_Tr_climb 7 R) (hst : (st.map fun v => v.category).sum ≤ 8) (hd : dp ≤ 40) (kk : xs X cA own cc nL ret R (wd ad cA ((mTr_climb key dp t s).2)) 0 0 (pc + 3) L (.int (zs ((mTr_climb key dp t s).1)) :: st)) : xs X cA own cc nL ret R (wd ad cA s) 0 0 pc L (.int (zs t) :: .int key :: .int (nI dp) :: .ref (ad 4) :: st) :=
  xs_call 4 (c_Tr_climb ad cA s dp key t hd) rfl rfl d hw hR rfl rfl rfl hst ⟨Nat.zero_le _, Nat.zero_le _⟩ kk
abbrev R_Tr_desc : Room := { frames := 0, cells := 0, slots := 0, locals := 0 }
set_option maxHeartbeats 4000000 in
set_option maxRecDepth 100000 in
theorem t_Tr_desc {X : xz_X} {ad : Nat → Nat} {cA : ClassId} {b : zS} : ∀ (n d : Nat) (a : zS) (s : zT), d + n = 39 → xfin X cA 0 0 (some (.int (nI ((mTr_desc b n d a s).1)))) (wd ad cA ((mTr_desc b n d a s).2)) → xs X cA RX2 cX2_descend 5 (some .int) R_Tr_desc (wd ad cA s) 0 0 5 [(4, .int (zs a)), (3, .int (nI d)), (2, .int (zs b)), (0, .ref (ad 4))] [] := by
  intro n
  induction n with
  | zero =>
    intro d a s hi hX
    refine xs_iload 0 dX2_descend_5 rfl ?_
    refine xs_sif_eq (t := 71) dX2_descend_7 (by decide) (fun c7 => ?_) (fun c7 => ?_)
    · refine xs_iload_n 1 dX2_descend_71 rfl ?_
      exact xs_iret hX rfl dX2_descend_72 rfl rfl
    · refine xs_iload 0 dX2_descend_10 rfl ?_
      refine xs_iload_n 2 dX2_descend_12 rfl ?_
      refine xs_scmp_eq (t := 71) dX2_descend_13 (by decide) (fun c13 => ?_) (fun c13 => ?_)
      · refine xs_iload_n 1 dX2_descend_71 rfl ?_
        exact xs_iret hX rfl dX2_descend_72 rfl rfl
      · refine xs_iload_n 1 dX2_descend_16 rfl ?_
        refine xs_bipush (v := 39) dX2_descend_17 (by decide) ?_
        refine xs_icmp_ge (t := 71) dX2_descend_19 (by decide) (fun c19 => ?_) (fun c19 => ?_)
        · refine xs_iload_n 1 dX2_descend_71 rfl ?_
          exact xs_iret hX rfl dX2_descend_72 rfl rfl
        · exact absurd (show (39 : Int32) ≤ nI d from kn_le (m := 39) (by omega) (by omega)) c19
  | succ n ih =>
    intro d a s hi hX
    refine xs_iload 0 dX2_descend_5 rfl ?_
    refine xs_sif_eq (t := 71) dX2_descend_7 (by decide) (fun c7 => ?_) (fun c7 => ?_)
    · refine xs_iload_n 1 dX2_descend_71 rfl ?_
      exact xs_iret hX rfl dX2_descend_72 (by simp only [mTr_desc, if_pos c7]) (by simp only [mTr_desc, if_pos c7])
    · refine xs_iload 0 dX2_descend_10 rfl ?_
      refine xs_iload_n 2 dX2_descend_12 rfl ?_
      refine xs_scmp_eq (t := 71) dX2_descend_13 (by decide) (fun c13 => ?_) (fun c13 => ?_)
      · refine xs_iload_n 1 dX2_descend_71 rfl ?_
        exact xs_iret hX rfl dX2_descend_72 (by simp only [mTr_desc, if_neg c7, if_pos c13]) (by simp only [mTr_desc, if_neg c7, if_pos c13])
      · refine xs_iload_n 1 dX2_descend_16 rfl ?_
        refine xs_bipush (v := 39) dX2_descend_17 (by decide) ?_
        refine xs_icmp_ge (t := 71) dX2_descend_19 (by decide) (fun c19 => ?_) (fun c19 => ?_)
        · exact absurd c19 (show ¬ (39 : Int32) ≤ nI d from kn_nle (m := 39) (by omega) (by decide))
        · refine xs_aload_n 3 dX2_descend_22 rfl ?_
          refine g_Tr_path dX2_descend_23 ?_
          refine xs_iload_n 1 dX2_descend_26 rfl ?_
          refine xs_iload 0 dX2_descend_27 rfl ?_
          refine asn_S8 dX2_descend_29 (by omega) ?_
          refine xs_iinc_n (L' := [(3, _), (4, _), (2, _), (0, _)]) 1 dX2_descend_30 rfl (by decide) rfl ?_
          refine xs_aload_n 3 dX2_descend_33 rfl ?_
          refine g_Tr_keys dX2_descend_34 ?_
          refine xs_iload_n 2 dX2_descend_37 rfl ?_
          refine al_I0 dX2_descend_38 ?_
          refine xs_aload_n 3 dX2_descend_39 rfl ?_
          refine g_Tr_keys dX2_descend_40 ?_
          refine xs_iload 1 dX2_descend_43 rfl ?_
          refine al_I0 dX2_descend_45 ?_
          refine xs_icmp_ge (t := 59) dX2_descend_46 (by decide) (fun c46 => ?_) (fun c46 => ?_)
          · refine xs_aload_n 3 dX2_descend_59 rfl ?_
            refine g_Tr_right dX2_descend_60 ?_
            refine xs_iload 1 dX2_descend_63 rfl ?_
            refine al_S7 dX2_descend_65 ?_
            refine xs_istore (L' := [(4, _), (3, _), (2, _), (0, _)]) dX2_descend_66 (by decide) rfl ?_
            refine xs_goto (t := 5) dX2_descend_68 (by decide) ?_
            refine xs_sub (L' := [(4, _), (3, _), (2, _), (0, _)]) [0, 1, 2, 3] rfl ?_
            exact ih _ _ _ (by omega) (by simp only [mTr_desc, if_neg c7, if_neg c13, if_neg c19, if_pos c46] at hX; exact hX)
          · refine xs_aload_n 3 dX2_descend_49 rfl ?_
            refine g_Tr_left dX2_descend_50 ?_
            refine xs_iload 1 dX2_descend_53 rfl ?_
            refine al_S6 dX2_descend_55 ?_
            refine xs_goto (t := 66) dX2_descend_56 (by decide) ?_
            refine xs_istore (L' := [(4, _), (3, _), (2, _), (0, _)]) dX2_descend_66 (by decide) rfl ?_
            refine xs_goto (t := 5) dX2_descend_68 (by decide) ?_
            refine xs_sub (L' := [(4, _), (3, _), (2, _), (0, _)]) [0, 1, 2, 3] rfl ?_
            exact ih _ _ _ (by omega) (by simp only [mTr_desc, if_neg c7, if_neg c13, if_neg c19, if_neg c46] at hX; exact hX)
set_option maxHeartbeats 4000000 in
set_option maxRecDepth 100000 in
theorem c_Tr_desc (ad : Nat → Nat) (cA : ClassId) (s : zT) (root : zS) (b : zS) : xct cA yX2_descend cX2_descend 5 (some .int) R_Tr_desc [.ref (ad 4), .int (zs root), .int (zs b)] (wd ad cA s) (some (.int (nI ((mTr_desc b 39 0 root s).1)))) (wd ad cA ((mTr_desc b 39 0 root s).2)) := by
  refine xct_of (own := RX2) (by decide) rfl (Nat.le_of_ble_eq_true rfl) (fun X hX => ?_)
  show xs X cA RX2 cX2_descend 5 (some .int) R_Tr_desc (wd ad cA s) 0 0 0 [(0, .ref (ad 4)), (1, .int (zs root)), (2, .int (zs b))] []
  refine xs_iconst (v := nI 0) dX2_descend_0 rfl ?_
  refine xs_istore_n (L' := [(3, _), (0, _), (1, _), (2, _)]) dX2_descend_1 (by decide) rfl ?_
  refine xs_iload_n 2 dX2_descend_2 rfl ?_
  refine xs_istore (L' := [(4, _), (3, _), (0, _), (1, _), (2, _)]) dX2_descend_3 (by decide) rfl ?_
  refine xs_sub (L' := [(4, _), (3, _), (2, _), (0, _)]) [0, 1, 4, 2] rfl ?_
  exact t_Tr_desc 39 0 _ _ rfl hX
theorem k_Tr_desc {X : xz_X} {cA : ClassId} {own : String} {ad : Nat → Nat} {cc : ByteArray} {nL : Nat} {ret : Option FieldType} {R : Room} {s : zT} {pc ix : Nat} {L : List (Nat × Value)} {st : List Value} {root : zS} {b : zS} (d : decode cc pc = .ok (.invokevirtual ix, 3)) (hw : xwV own ix yX2_descend cX2_descend 5 (some .int) 2) (hR : xroom R_Tr_desc 5 R) (hst : (st.map fun v => v.category).sum ≤ 8) (kk : xs X cA own cc nL ret R (wd ad cA ((mTr_desc b 39 0 root s).2)) 0 0 (pc + 3) L (.int (nI ((mTr_desc b 39 0 root s).1)) :: st)) : xs X cA own cc nL ret R (wd ad cA s) 0 0 pc L (.int (zs b) :: .int (zs root) :: .ref (ad 4) :: st) :=
  xs_call 4 (c_Tr_desc ad cA s root b) rfl rfl d hw hR rfl rfl rfl hst ⟨Nat.zero_le _, Nat.zero_le _⟩ kk
abbrev R_Tr_with : Room := { frames := 3, cells := 0, slots := 0, locals := 72 }
set_option maxRecDepth 100000 in
theorem kw_Tr_Tr_desc : xwV RX2 27 yX2_descend cX2_descend 5 (some .int) 2 := ⟨⟨xt_of (List.mem_of_getElem? (i := 443) rfl) rfl, xt_of (by decide +kernel) rfl, xt_of (by decide +kernel) rfl, by decide +kernel⟩, xt_of (by decide +kernel) rfl, xt_of (by decide +kernel) rfl⟩
set_option maxRecDepth 100000 in
theorem kw_Tr_Tr_climb : xwV RX2 31 yX2_climb cX2_climb 7 (some .int) 3 := ⟨⟨xt_of (List.mem_of_getElem? (i := 447) rfl) rfl, xt_of (by decide +kernel) rfl, xt_of (by decide +kernel) rfl, by decide +kernel⟩, xt_of (by decide +kernel) rfl, xt_of (by decide +kernel) rfl⟩
set_option maxHeartbeats 4000000 in
set_option maxRecDepth 100000 in
theorem c_Tr_with (ad : Nat → Nat) (cA : ClassId) (s : zT) (root : zS) (a : zS) : xct cA yX2_with cX2_with 4 (some .int) R_Tr_with [.ref (ad 4), .int (zs root), .int (zs a)] (wd ad cA s) (some (.int (zs ((mTr_with s root a).1)))) (wd ad cA ((mTr_with s root a).2)) := by
  refine xct_of (own := RX2) (by decide) rfl (Nat.le_of_ble_eq_true rfl) (fun X hX => ?_)
  show xs X cA RX2 cX2_with 4 (some .int) R_Tr_with (wd ad cA s) 0 0 0 [(0, .ref (ad 4)), (1, .int (zs root)), (2, .int (zs a))] []
  refine xs_aload_n 0 dX2_with_0 rfl ?_
  refine g_Tr_left dX2_with_1 ?_
  refine xs_iload_n 2 dX2_with_4 rfl ?_
  refine xs_iconst (v := zs 0) dX2_with_5 rfl ?_
  refine as_S6 dX2_with_6 ?_
  refine xs_aload_n 0 dX2_with_7 rfl ?_
  refine g_Tr_right dX2_with_8 ?_
  refine xs_iload_n 2 dX2_with_11 rfl ?_
  refine xs_iconst (v := zs 0) dX2_with_12 rfl ?_
  refine as_S7 dX2_with_13 ?_
  refine xs_aload_n 0 dX2_with_14 rfl ?_
  refine g_Tr_heights dX2_with_15 ?_
  refine xs_iload_n 2 dX2_with_18 rfl ?_
  refine xs_iconst (v := 1) dX2_with_19 (by decide) ?_
  refine as_I1 dX2_with_20 ?_
  refine xs_aload_n 0 dX2_with_21 rfl ?_
  refine xs_iload_n 1 dX2_with_22 rfl ?_
  refine xs_iload_n 2 dX2_with_23 rfl ?_
  refine k_Tr_desc dX2_with_24 kw_Tr_Tr_desc (by decide) (Nat.le_of_ble_eq_true rfl) ?_
  refine xs_istore_n (L' := [(3, _), (0, _), (1, _), (2, _)]) dX2_with_27 (by decide) rfl ?_
  refine xs_aload_n 1 dX2_with_28 rfl ?_
  refine xs_iload_n 0 dX2_with_29 rfl ?_
  refine xs_aload_n 1 dX2_with_30 rfl ?_
  refine g_Tr_keys dX2_with_31 ?_
  refine xs_iload_n 3 dX2_with_34 rfl ?_
  refine al_I0 dX2_with_35 ?_
  refine xs_iload_n 3 dX2_with_36 rfl ?_
  refine k_Tr_climb dX2_with_37 kw_Tr_Tr_climb (by decide) (Nat.le_of_ble_eq_true rfl) (Nat.le_trans (desc_le _ _ _ _ _) (by decide)) ?_
  exact xs_iret hX rfl dX2_with_40 rfl rfl
theorem k_Tr_with {X : xz_X} {cA : ClassId} {own : String} {ad : Nat → Nat} {cc : ByteArray} {nL : Nat} {ret : Option FieldType} {R : Room} {s : zT} {pc ix : Nat} {L : List (Nat × Value)} {st : List Value} {root : zS} {a : zS} (d : decode cc pc = .ok (.invokevirtual ix, 3)) (hw : xwV own ix yX2_with cX2_with 4 (some .int) 2) (hR : xroom R_Tr_with 4 R) (hst : (st.map fun v => v.category).sum ≤ 8) (kk : xs X cA own cc nL ret R (wd ad cA ((mTr_with s root a).2)) 0 0 (pc + 3) L (.int (zs ((mTr_with s root a).1)) :: st)) : xs X cA own cc nL ret R (wd ad cA s) 0 0 pc L (.int (zs a) :: .int (zs root) :: .ref (ad 4) :: st) :=
  xs_call 4 (c_Tr_with ad cA s root a) rfl rfl d hw hR rfl rfl rfl hst ⟨Nat.zero_le _, Nat.zero_le _⟩ kk
abbrev R_Tr_without : Room := { frames := 3, cells := 0, slots := 0, locals := 72 }
set_option maxHeartbeats 4000000 in
set_option maxRecDepth 100000 in
theorem t_Tr_wo2 {X : xz_X} {ad : Nat → Nat} {cA : ClassId} {a : zS} : ∀ (q d : Nat) (h : zS) (s : zT), q < 40 → d ≤ 40 → xfin X cA 0 0 (some (.int (zs ((mTr_wo2 s a q d h).1)))) (wd ad cA ((mTr_wo2 s a q d h).2)) → xs X cA RX2 cX2_without 6 (some .int) R_Tr_without (wd ad cA s) 0 0 87 [(5, .int (zs h)), (4, .int (nI q)), (3, .int (nI d)), (2, .int (zs a)), (0, .ref (ad 4))] [] := by
  intro q d h s hq hd hX
  refine xs_aload_n 4 dX2_without_87 rfl ?_
  refine g_Tr_path dX2_without_88 ?_
  refine xs_iload 1 dX2_without_91 rfl ?_
  refine xs_iload 0 dX2_without_93 rfl ?_
  refine asn_S8 dX2_without_95 hq ?_
  refine xs_aload_n 4 dX2_without_96 rfl ?_
  refine g_Tr_left dX2_without_97 ?_
  refine xs_iload 0 dX2_without_100 rfl ?_
  refine xs_aload_n 4 dX2_without_102 rfl ?_
  refine g_Tr_left dX2_without_103 ?_
  refine xs_iload_n 3 dX2_without_106 rfl ?_
  refine al_S6 dX2_without_107 ?_
  refine as_S6 dX2_without_108 ?_
  refine xs_aload_n 4 dX2_without_109 rfl ?_
  refine xs_iload_n 2 dX2_without_110 rfl ?_
  refine xs_aload_n 4 dX2_without_111 rfl ?_
  refine g_Tr_keys dX2_without_112 ?_
  refine xs_iload 0 dX2_without_115 rfl ?_
  refine al_I0 dX2_without_117 ?_
  refine xs_aload_n 4 dX2_without_118 rfl ?_
  refine g_Tr_right dX2_without_119 ?_
  refine xs_iload 0 dX2_without_122 rfl ?_
  refine al_S7 dX2_without_124 ?_
  refine k_Tr_climb dX2_without_125 kw_Tr_Tr_climb (by decide) (Nat.le_of_ble_eq_true rfl) hd ?_
  exact xs_iret hX rfl dX2_without_128 rfl rfl
set_option maxHeartbeats 4000000 in
set_option maxRecDepth 100000 in
theorem t_Tr_heir {X : xz_X} {ad : Nat → Nat} {cA : ClassId} {a : zS} {q : Nat} : ∀ (n d : Nat) (h : zS) (s : zT), q < 40 → d + n = 40 → xfin X cA 0 0 (some (.int (zs ((mTr_wo1 a q n d h s).1)))) (wd ad cA ((mTr_wo1 a q n d h s).2)) → xs X cA RX2 cX2_without 6 (some .int) R_Tr_without (wd ad cA s) 0 0 48 [(5, .int (zs h)), (4, .int (nI q)), (3, .int (nI d)), (2, .int (zs a)), (0, .ref (ad 4))] [] := by
  intro n
  induction n with
  | zero =>
    intro d h s hq hd hX
    refine xs_aload_n 4 dX2_without_48 rfl ?_
    refine g_Tr_left dX2_without_49 ?_
    refine xs_iload 0 dX2_without_52 rfl ?_
    refine al_S6 dX2_without_54 ?_
    refine xs_sif_eq (t := 87) dX2_without_55 (by decide) (fun c55 => ?_) (fun c55 => ?_)
    · refine xs_sub (L' := [(5, _), (4, _), (3, _), (2, _), (0, _)]) [0, 1, 2, 3, 4] rfl ?_
      exact t_Tr_wo2 _ _ _ _ hq (by omega) hX
    · refine xs_iload_n 2 dX2_without_58 rfl ?_
      refine xs_bipush (v := 40) dX2_without_59 (by decide) ?_
      refine xs_icmp_ge (t := 87) dX2_without_61 (by decide) (fun c61 => ?_) (fun c61 => ?_)
      · refine xs_sub (L' := [(5, _), (4, _), (3, _), (2, _), (0, _)]) [0, 1, 2, 3, 4] rfl ?_
        exact t_Tr_wo2 _ _ _ _ hq (by omega) hX
      · exact absurd (show (40 : Int32) ≤ nI d from kn_le (m := 40) (by omega) (by omega)) c61
  | succ n ih =>
    intro d h s hq hd hX
    refine xs_aload_n 4 dX2_without_48 rfl ?_
    refine g_Tr_left dX2_without_49 ?_
    refine xs_iload 0 dX2_without_52 rfl ?_
    refine al_S6 dX2_without_54 ?_
    refine xs_sif_eq (t := 87) dX2_without_55 (by decide) (fun c55 => ?_) (fun c55 => ?_)
    · refine xs_sub (L' := [(5, _), (4, _), (3, _), (2, _), (0, _)]) [0, 1, 2, 3, 4] rfl ?_
      exact t_Tr_wo2 _ _ _ _ hq (by omega) (by simp only [mTr_wo1, mTr_heir, if_pos c55] at hX; exact hX)
    · refine xs_iload_n 2 dX2_without_58 rfl ?_
      refine xs_bipush (v := 40) dX2_without_59 (by decide) ?_
      refine xs_icmp_ge (t := 87) dX2_without_61 (by decide) (fun c61 => ?_) (fun c61 => ?_)
      · exact absurd c61 (show ¬ (40 : Int32) ≤ nI d from kn_nle (m := 40) (by omega) (by decide))
      · refine xs_aload_n 4 dX2_without_64 rfl ?_
        refine g_Tr_path dX2_without_65 ?_
        refine xs_iload_n 2 dX2_without_68 rfl ?_
        refine xs_iload 0 dX2_without_69 rfl ?_
        refine asn_S8 dX2_without_71 (by omega) ?_
        refine xs_iinc_n (L' := [(3, _), (5, _), (4, _), (2, _), (0, _)]) 2 dX2_without_72 rfl (by decide) rfl ?_
        refine xs_aload_n 4 dX2_without_75 rfl ?_
        refine g_Tr_left dX2_without_76 ?_
        refine xs_iload 1 dX2_without_79 rfl ?_
        refine al_S6 dX2_without_81 ?_
        refine xs_istore (L' := [(5, _), (3, _), (4, _), (2, _), (0, _)]) dX2_without_82 (by decide) rfl ?_
        refine xs_goto (t := 48) dX2_without_84 (by decide) ?_
        refine xs_sub (L' := [(5, _), (4, _), (3, _), (2, _), (0, _)]) [0, 2, 1, 3, 4] rfl ?_
        exact ih _ _ _ hq (by omega) (by simp only [mTr_wo1, mTr_heir, if_neg c55, if_neg c61] at hX; exact hX)
set_option maxHeartbeats 4000000 in
set_option maxRecDepth 100000 in
theorem c_Tr_without (ad : Nat → Nat) (cA : ClassId) (s : zT) (root : zS) (a : zS) : xct cA yX2_without cX2_without 6 (some .int) R_Tr_without [.ref (ad 4), .int (zs root), .int (zs a)] (wd ad cA s) (some (.int (zs ((mTr_without s root a).1)))) (wd ad cA ((mTr_without s root a).2)) := by
  refine xct_of (own := RX2) (by decide) rfl (Nat.le_of_ble_eq_true rfl) (fun X hX => ?_)
  show xs X cA RX2 cX2_without 6 (some .int) R_Tr_without (wd ad cA s) 0 0 0 [(0, .ref (ad 4)), (1, .int (zs root)), (2, .int (zs a))] []
  refine xs_aload_n 0 dX2_without_0 rfl ?_
  refine xs_iload_n 1 dX2_without_1 rfl ?_
  refine xs_iload_n 2 dX2_without_2 rfl ?_
  refine k_Tr_desc dX2_without_3 kw_Tr_Tr_desc (by decide) (Nat.le_of_ble_eq_true rfl) ?_
  refine xs_istore_n (L' := [(3, _), (0, _), (1, _), (2, _)]) dX2_without_6 (by decide) rfl ?_
  refine xs_aload_n 1 dX2_without_7 rfl ?_
  refine g_Tr_right dX2_without_8 ?_
  refine xs_iload_n 3 dX2_without_11 rfl ?_
  refine al_S7 dX2_without_12 ?_
  refine xs_sif_ne (t := 34) dX2_without_13 (by decide) (fun c13 => ?_) (fun c13 => ?_)
  · refine xs_iload_n 0 dX2_without_34 rfl ?_
    refine xs_istore (L' := [(4, _), (3, _), (0, _), (1, _), (2, _)]) dX2_without_35 (by decide) rfl ?_
    refine xs_aload_n 2 dX2_without_37 rfl ?_
    refine g_Tr_right dX2_without_38 ?_
    refine xs_iload_n 4 dX2_without_41 rfl ?_
    refine al_S7 dX2_without_42 ?_
    refine xs_istore (L' := [(5, _), (4, _), (3, _), (0, _), (1, _), (2, _)]) dX2_without_43 (by decide) rfl ?_
    refine xs_iinc_n (L' := [(3, _), (5, _), (4, _), (0, _), (1, _), (2, _)]) 2 dX2_without_45 rfl (by decide) rfl ?_
    refine xs_sub (L' := [(5, _), (4, _), (3, _), (2, _), (0, _)]) [1, 2, 0, 5, 3] rfl ?_
    exact t_Tr_heir (39 - (mTr_desc a 39 0 root s).1) _ _ _ (Nat.lt_of_le_of_lt (desc_le _ _ _ _ _) (by decide)) (by have := desc_le a 39 0 root s; omega) (by simp only [mTr_without, if_neg c13] at hX; exact hX)
  · refine xs_aload_n 1 dX2_without_16 rfl ?_
    refine xs_iload_n 0 dX2_without_17 rfl ?_
    refine xs_aload_n 1 dX2_without_18 rfl ?_
    refine g_Tr_keys dX2_without_19 ?_
    refine xs_iload_n 3 dX2_without_22 rfl ?_
    refine al_I0 dX2_without_23 ?_
    refine xs_aload_n 1 dX2_without_24 rfl ?_
    refine g_Tr_left dX2_without_25 ?_
    refine xs_iload_n 3 dX2_without_28 rfl ?_
    refine al_S6 dX2_without_29 ?_
    refine k_Tr_climb dX2_without_30 kw_Tr_Tr_climb (by decide) (Nat.le_of_ble_eq_true rfl) (Nat.le_trans (desc_le _ _ _ _ _) (by decide)) ?_
    exact xs_iret hX rfl dX2_without_33 (by simp only [mTr_without, if_pos c13]) (by simp only [mTr_without, if_pos c13])
theorem k_Tr_without {X : xz_X} {cA : ClassId} {own : String} {ad : Nat → Nat} {cc : ByteArray} {nL : Nat} {ret : Option FieldType} {R : Room} {s : zT} {pc ix : Nat} {L : List (Nat × Value)} {st : List Value} {root : zS} {a : zS} (d : decode cc pc = .ok (.invokevirtual ix, 3)) (hw : xwV own ix yX2_without cX2_without 6 (some .int) 2) (hR : xroom R_Tr_without 6 R) (hst : (st.map fun v => v.category).sum ≤ 8) (kk : xs X cA own cc nL ret R (wd ad cA ((mTr_without s root a).2)) 0 0 (pc + 3) L (.int (zs ((mTr_without s root a).1)) :: st)) : xs X cA own cc nL ret R (wd ad cA s) 0 0 pc L (.int (zs a) :: .int (zs root) :: .ref (ad 4) :: st) :=
  xs_call 4 (c_Tr_without ad cA s root a) rfl rfl d hw hR rfl rfl rfl hst ⟨Nat.zero_le _, Nat.zero_le _⟩ kk
abbrev R_Tr_fa : Room := { frames := 1, cells := 0, slots := 0, locals := 23 }
set_option maxHeartbeats 4000000 in
set_option maxRecDepth 100000 in
theorem t_Tr_fa4 {X : xz_X} {ad : Nat → Nat} {cA : ClassId} {s : zT} {a : zS} : ∀ (x : Int32), xfin X cA 0 0 (some (.int (mTr_fa4 s a x))) (wd ad cA (s)) → xs X cA RX2 cX2_faultsAt 6 (some .int) R_Tr_fa (wd ad cA s) 0 0 94 [(2, .int x), (1, .int (zs a)), (0, .ref (ad 4))] [] := by
  intro x hX
  refine xs_aload_n 2 dX2_faultsAt_94 rfl ?_
  refine g_Tr_heights dX2_faultsAt_95 ?_
  refine xs_iload_n 1 dX2_faultsAt_98 rfl ?_
  refine al_I1 dX2_faultsAt_99 ?_
  refine xs_aload_n 2 dX2_faultsAt_100 rfl ?_
  refine xs_iload_n 1 dX2_faultsAt_101 rfl ?_
  refine k_Tr_over dX2_faultsAt_102 kw_Tr_Tr_over (by decide) (Nat.le_of_ble_eq_true rfl) ?_
  refine xs_icmp_eq (t := 111) dX2_faultsAt_105 (by decide) (fun c105 => ?_) (fun c105 => ?_)
  · refine xs_iload_n 0 dX2_faultsAt_111 rfl ?_
    exact xs_iret hX rfl dX2_faultsAt_112 (by simp only [mTr_fa4, if_pos c105]) rfl
  · refine xs_iinc_1 (L' := [(2, _), (1, _), (0, _)]) 0 dX2_faultsAt_108 rfl (by decide) rfl ?_
    refine xs_iload_n 0 dX2_faultsAt_111 rfl ?_
    exact xs_iret hX rfl dX2_faultsAt_112 (by simp only [mTr_fa4, if_neg c105]) rfl
set_option maxHeartbeats 4000000 in
set_option maxRecDepth 100000 in
theorem t_Tr_fa3 {X : xz_X} {ad : Nat → Nat} {cA : ClassId} {s : zT} {a : zS} : ∀ (x : Int32), xfin X cA 0 0 (some (.int (mTr_fa3 s a x))) (wd ad cA (s)) → xs X cA RX2 cX2_faultsAt 6 (some .int) R_Tr_fa (wd ad cA s) 0 0 63 [(2, .int x), (1, .int (zs a)), (3, .int (zs (s.1 6 a))), (4, .int (zs (s.1 7 a))), (0, .ref (ad 4))] [] := by
  intro x hX
  refine xs_aload_n 4 dX2_faultsAt_63 rfl ?_
  refine g_Tr_heights dX2_faultsAt_64 ?_
  refine xs_iload_n 2 dX2_faultsAt_67 rfl ?_
  refine al_I1 dX2_faultsAt_68 ?_
  refine xs_aload_n 4 dX2_faultsAt_69 rfl ?_
  refine g_Tr_heights dX2_faultsAt_70 ?_
  refine xs_iload 3 dX2_faultsAt_73 rfl ?_
  refine al_I1 dX2_faultsAt_75 ?_
  refine xs_isub dX2_faultsAt_76 ?_
  refine xs_istore (L' := [(5, _), (2, _), (1, _), (3, _), (4, _), (0, _)]) dX2_faultsAt_77 (by decide) rfl ?_
  refine xs_iload 0 dX2_faultsAt_79 rfl ?_
  refine xs_iconst (v := (-1)) dX2_faultsAt_81 (by decide) ?_
  refine xs_icmp_lt (t := 91) dX2_faultsAt_82 (by decide) (fun c82 => ?_) (fun c82 => ?_)
  · refine xs_iinc_1 (L' := [(2, _), (5, _), (1, _), (3, _), (4, _), (0, _)]) 1 dX2_faultsAt_91 rfl (by decide) rfl ?_
    refine xs_sub (L' := [(2, _), (1, _), (0, _)]) [0, 2, 5] rfl ?_
    exact t_Tr_fa4 _ (by simp only [mTr_fa3, if_pos c82] at hX; exact hX)
  · refine xs_iload 0 dX2_faultsAt_85 rfl ?_
    refine xs_iconst (v := 1) dX2_faultsAt_87 (by decide) ?_
    refine xs_icmp_le (t := 94) dX2_faultsAt_88 (by decide) (fun c88 => ?_) (fun c88 => ?_)
    · refine xs_sub (L' := [(2, _), (1, _), (0, _)]) [1, 2, 5] rfl ?_
      exact t_Tr_fa4 _ (by simp only [mTr_fa3, if_neg c82, if_pos c88] at hX; exact hX)
    · refine xs_iinc_1 (L' := [(2, _), (5, _), (1, _), (3, _), (4, _), (0, _)]) 1 dX2_faultsAt_91 rfl (by decide) rfl ?_
      refine xs_sub (L' := [(2, _), (1, _), (0, _)]) [0, 2, 5] rfl ?_
      exact t_Tr_fa4 _ (by simp only [mTr_fa3, if_neg c82, if_neg c88] at hX; exact hX)
set_option maxHeartbeats 4000000 in
set_option maxRecDepth 100000 in
theorem t_Tr_fa2 {X : xz_X} {ad : Nat → Nat} {cA : ClassId} {s : zT} {a : zS} : ∀ (x : Int32), xfin X cA 0 0 (some (.int (mTr_fa2 s a x))) (wd ad cA (s)) → xs X cA RX2 cX2_faultsAt 6 (some .int) R_Tr_fa (wd ad cA s) 0 0 39 [(2, .int x), (1, .int (zs a)), (3, .int (zs (s.1 6 a))), (4, .int (zs (s.1 7 a))), (0, .ref (ad 4))] [] := by
  intro x hX
  refine xs_iload 3 dX2_faultsAt_39 rfl ?_
  refine xs_sif_eq (t := 63) dX2_faultsAt_41 (by decide) (fun c41 => ?_) (fun c41 => ?_)
  · refine xs_sub (L' := [(2, _), (1, _), (3, _), (4, _), (0, _)]) [0, 1, 2, 3, 4] rfl ?_
    exact t_Tr_fa3 _ (by simp only [mTr_fa2, if_pos c41] at hX; exact hX)
  · refine xs_aload_n 4 dX2_faultsAt_44 rfl ?_
    refine g_Tr_keys dX2_faultsAt_45 ?_
    refine xs_iload 3 dX2_faultsAt_48 rfl ?_
    refine al_I0 dX2_faultsAt_50 ?_
    refine xs_aload_n 4 dX2_faultsAt_51 rfl ?_
    refine g_Tr_keys dX2_faultsAt_52 ?_
    refine xs_iload_n 1 dX2_faultsAt_55 rfl ?_
    refine al_I0 dX2_faultsAt_56 ?_
    refine xs_icmp_gt (t := 63) dX2_faultsAt_57 (by decide) (fun c57 => ?_) (fun c57 => ?_)
    · refine xs_sub (L' := [(2, _), (1, _), (3, _), (4, _), (0, _)]) [0, 1, 2, 3, 4] rfl ?_
      exact t_Tr_fa3 _ (by simp only [mTr_fa2, if_neg c41, if_pos c57] at hX; exact hX)
    · refine xs_iinc_1 (L' := [(2, _), (1, _), (3, _), (4, _), (0, _)]) 0 dX2_faultsAt_60 rfl (by decide) rfl ?_
      refine xs_sub (L' := [(2, _), (1, _), (3, _), (4, _), (0, _)]) [0, 1, 2, 3, 4] rfl ?_
      exact t_Tr_fa3 _ (by simp only [mTr_fa2, if_neg c41, if_neg c57] at hX; exact hX)
set_option maxHeartbeats 4000000 in
set_option maxRecDepth 100000 in
theorem c_Tr_fa (ad : Nat → Nat) (cA : ClassId) (s : zT) (a : zS) : xct cA yX2_faultsAt cX2_faultsAt 6 (some .int) R_Tr_fa [.ref (ad 4), .int (zs a)] (wd ad cA s) (some (.int (mTr_fa s a))) (wd ad cA (s)) := by
  refine xct_of (own := RX2) (by decide) rfl (Nat.le_of_ble_eq_true rfl) (fun X hX => ?_)
  show xs X cA RX2 cX2_faultsAt 6 (some .int) R_Tr_fa (wd ad cA s) 0 0 0 [(0, .ref (ad 4)), (1, .int (zs a))] []
  refine xs_iconst (v := 0) dX2_faultsAt_0 (by decide) ?_
  refine xs_istore_n (L' := [(2, _), (0, _), (1, _)]) dX2_faultsAt_1 (by decide) rfl ?_
  refine xs_aload_n 1 dX2_faultsAt_2 rfl ?_
  refine g_Tr_left dX2_faultsAt_3 ?_
  refine xs_iload_n 2 dX2_faultsAt_6 rfl ?_
  refine al_S6 dX2_faultsAt_7 ?_
  refine xs_istore_n (L' := [(3, _), (2, _), (0, _), (1, _)]) dX2_faultsAt_8 (by decide) rfl ?_
  refine xs_aload_n 2 dX2_faultsAt_9 rfl ?_
  refine g_Tr_right dX2_faultsAt_10 ?_
  refine xs_iload_n 3 dX2_faultsAt_13 rfl ?_
  refine al_S7 dX2_faultsAt_14 ?_
  refine xs_istore (L' := [(4, _), (3, _), (2, _), (0, _), (1, _)]) dX2_faultsAt_15 (by decide) rfl ?_
  refine xs_iload_n 1 dX2_faultsAt_17 rfl ?_
  refine xs_sif_eq (t := 39) dX2_faultsAt_18 (by decide) (fun c18 => ?_) (fun c18 => ?_)
  · refine xs_sub (L' := [(2, _), (1, _), (3, _), (4, _), (0, _)]) [2, 4, 1, 0, 3] rfl ?_
    exact t_Tr_fa2 _ (by simp only [mTr_fa, if_pos c18] at hX; exact hX)
  · refine xs_aload_n 3 dX2_faultsAt_21 rfl ?_
    refine g_Tr_keys dX2_faultsAt_22 ?_
    refine xs_iload_n 1 dX2_faultsAt_25 rfl ?_
    refine al_I0 dX2_faultsAt_26 ?_
    refine xs_aload_n 3 dX2_faultsAt_27 rfl ?_
    refine g_Tr_keys dX2_faultsAt_28 ?_
    refine xs_iload_n 4 dX2_faultsAt_31 rfl ?_
    refine al_I0 dX2_faultsAt_32 ?_
    refine xs_icmp_lt (t := 39) dX2_faultsAt_33 (by decide) (fun c33 => ?_) (fun c33 => ?_)
    · refine xs_sub (L' := [(2, _), (1, _), (3, _), (4, _), (0, _)]) [2, 4, 1, 0, 3] rfl ?_
      exact t_Tr_fa2 _ (by simp only [mTr_fa, if_neg c18, if_pos c33] at hX; exact hX)
    · refine xs_iinc_1 (L' := [(2, _), (4, _), (3, _), (0, _), (1, _)]) 2 dX2_faultsAt_36 rfl (by decide) rfl ?_
      refine xs_sub (L' := [(2, _), (1, _), (3, _), (4, _), (0, _)]) [0, 4, 2, 1, 3] rfl ?_
      exact t_Tr_fa2 _ (by simp only [mTr_fa, if_neg c18, if_neg c33] at hX; exact hX)
theorem k_Tr_fa {X : xz_X} {cA : ClassId} {own : String} {ad : Nat → Nat} {cc : ByteArray} {nL : Nat} {ret : Option FieldType} {R : Room} {s : zT} {pc ix : Nat} {L : List (Nat × Value)} {st : List Value} {a : zS} (d : decode cc pc = .ok (.invokevirtual ix, 3)) (hw : xwV own ix yX2_faultsAt cX2_faultsAt 6 (some .int) 1) (hR : xroom R_Tr_fa 6 R) (hst : (st.map fun v => v.category).sum ≤ 8) (kk : xs X cA own cc nL ret R (wd ad cA (s)) 0 0 (pc + 3) L (.int (mTr_fa s a) :: st)) : xs X cA own cc nL ret R (wd ad cA s) 0 0 pc L (.int (zs a) :: .ref (ad 4) :: st) :=
  xs_call 4 (c_Tr_fa ad cA s a) rfl rfl d hw hR rfl rfl rfl hst ⟨Nat.zero_le _, Nat.zero_le _⟩ kk
abbrev R_Tr_br : Room := { frames := 0, cells := 0, slots := 0, locals := 0 }
set_option maxHeartbeats 4000000 in
set_option maxRecDepth 100000 in
theorem c_Tr_br (ad : Nat → Nat) (cA : ClassId) (s : zT) (a : zS) : xct cA yX2_branchesOf cX2_branchesOf 2 (some .int) R_Tr_br [.ref (ad 4), .int (zs a)] (wd ad cA s) (some (.int (mTr_br s a))) (wd ad cA (s)) := by
  refine xct_of (own := RX2) (by decide) rfl (Nat.le_of_ble_eq_true rfl) (fun X hX => ?_)
  show xs X cA RX2 cX2_branchesOf 2 (some .int) R_Tr_br (wd ad cA s) 0 0 0 [(0, .ref (ad 4)), (1, .int (zs a))] []
  refine xs_aload_n 0 dX2_branchesOf_0 rfl ?_
  refine g_Tr_left dX2_branchesOf_1 ?_
  refine xs_iload_n 1 dX2_branchesOf_4 rfl ?_
  refine al_S6 dX2_branchesOf_5 ?_
  refine xs_sif_ne (t := 13) dX2_branchesOf_6 (by decide) (fun c6 => ?_) (fun c6 => ?_)
  · refine xs_iconst (v := 1) dX2_branchesOf_13 (by decide) ?_
    refine xs_aload_n 0 dX2_branchesOf_14 rfl ?_
    refine g_Tr_right dX2_branchesOf_15 ?_
    refine xs_iload_n 1 dX2_branchesOf_18 rfl ?_
    refine al_S7 dX2_branchesOf_19 ?_
    refine xs_sif_ne (t := 27) dX2_branchesOf_20 (by decide) (fun c20 => ?_) (fun c20 => ?_)
    · refine xs_iconst (v := 1) dX2_branchesOf_27 (by decide) ?_
      refine xs_iadd dX2_branchesOf_28 ?_
      exact xs_iret hX rfl dX2_branchesOf_29 (by simp only [mTr_br, if_neg c6, if_neg c20]) rfl
    · refine xs_iconst (v := 0) dX2_branchesOf_23 (by decide) ?_
      refine xs_goto (t := 28) dX2_branchesOf_24 (by decide) ?_
      refine xs_iadd dX2_branchesOf_28 ?_
      exact xs_iret hX rfl dX2_branchesOf_29 (by simp only [mTr_br, if_neg c6, if_pos c20]) rfl
  · refine xs_iconst (v := 0) dX2_branchesOf_9 (by decide) ?_
    refine xs_goto (t := 14) dX2_branchesOf_10 (by decide) ?_
    refine xs_aload_n 0 dX2_branchesOf_14 rfl ?_
    refine g_Tr_right dX2_branchesOf_15 ?_
    refine xs_iload_n 1 dX2_branchesOf_18 rfl ?_
    refine al_S7 dX2_branchesOf_19 ?_
    refine xs_sif_ne (t := 27) dX2_branchesOf_20 (by decide) (fun c20 => ?_) (fun c20 => ?_)
    · refine xs_iconst (v := 1) dX2_branchesOf_27 (by decide) ?_
      refine xs_iadd dX2_branchesOf_28 ?_
      exact xs_iret hX rfl dX2_branchesOf_29 (by simp only [mTr_br, if_pos c6, if_neg c20]) rfl
    · refine xs_iconst (v := 0) dX2_branchesOf_23 (by decide) ?_
      refine xs_goto (t := 28) dX2_branchesOf_24 (by decide) ?_
      refine xs_iadd dX2_branchesOf_28 ?_
      exact xs_iret hX rfl dX2_branchesOf_29 (by simp only [mTr_br, if_pos c6, if_pos c20]) rfl
theorem k_Tr_br {X : xz_X} {cA : ClassId} {own : String} {ad : Nat → Nat} {cc : ByteArray} {nL : Nat} {ret : Option FieldType} {R : Room} {s : zT} {pc ix : Nat} {L : List (Nat × Value)} {st : List Value} {a : zS} (d : decode cc pc = .ok (.invokevirtual ix, 3)) (hw : xwV own ix yX2_branchesOf cX2_branchesOf 2 (some .int) 1) (hR : xroom R_Tr_br 2 R) (hst : (st.map fun v => v.category).sum ≤ 8) (kk : xs X cA own cc nL ret R (wd ad cA (s)) 0 0 (pc + 3) L (.int (mTr_br s a) :: st)) : xs X cA own cc nL ret R (wd ad cA s) 0 0 pc L (.int (zs a) :: .ref (ad 4) :: st) :=
  xs_call 4 (c_Tr_br ad cA s a) rfl rfl d hw hR rfl rfl rfl hst ⟨Nat.zero_le _, Nat.zero_le _⟩ kk
