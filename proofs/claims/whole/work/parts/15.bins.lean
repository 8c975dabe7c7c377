theorem xs_alen {X : xz_X} {cA : ClassId} {own : String} {cc : ByteArray} {nL : Nat} {ret : Option FieldType} {R : Room} {ws : va_W} {k n pc : Nat} {L : List (Nat × Value)} {st : List Value} {a N : Nat} {f : Nat → Int32} (q0 : Nat) (d : decode cc pc = .ok (.arraylength, 1)) (he : ws[q0]? = some (a, .inl (cA, N, .inl f)))
    (kk : xs X cA own cc nL ret R ws k n (pc + 1) L (.int (nI N) :: st)) : xs X cA own cc nL ret R ws k n pc L (.ref a :: st) := by
  obtain ⟨p, l, e, s, m, args, below, meth, c, D, A, Q, ty2⟩ := X
  intro v H locs ls hP hD hS hl
  obtain ⟨⟨hx, hb, hml, hown, hts⟩, hK, hA, hlk, hr, hfl, hns⟩ := id v
  exact va_alen hx hb hK hP q0 0 he rfl (v := nI N) rfl d (kk v H locs ls hP hD hS hl)
theorem fill_0 (s : zT) (r : Nat) : mFillL s r 0 = s := by
  unfold mFillL
  refine Prod.ext ?_ rfl
  funext q i
  show (bif Nat.beq q r then (fun i => if i < 0 then 0 else s.1 q i) else s.1 q) i = s.1 q i
  cases Nat.beq q r with
  | true => exact (if_neg (Nat.not_lt_zero i) : (if i < 0 then (0 : zS) else s.1 q i) = s.1 q i)
  | false => rfl
theorem fill_s (s : zT) (r n : Nat) : u1 (mFillL s r n) r n 0 = mFillL s r (n + 1) := by
  refine Prod.ext ?_ rfl
  funext q i
  show (bif Nat.beq q r then zup (bif Nat.beq q r then (fun i => if i < n then 0 else s.1 q i) else s.1 q) n 0 else (bif Nat.beq q r then (fun i => if i < n then 0 else s.1 q i) else s.1 q)) i = (bif Nat.beq q r then (fun i => if i < n + 1 then 0 else s.1 q i) else s.1 q) i
  cases Nat.beq q r with
  | false => rfl
  | true =>
    show (if i = n then 0 else if i < n then 0 else s.1 q i) = if i < n + 1 then 0 else s.1 q i
    by_cases h : i = n
    · rw [if_pos h, if_pos (by omega)]
    · rw [if_neg h]
      by_cases h2 : i < n
      · rw [if_pos h2, if_pos (by omega)]
      · rw [if_neg h2, if_neg (by omega)]
abbrev R_fill : Room := { frames := 0, cells := 0, slots := 0, locals := 0 }
theorem kw_fill : xwS RX0 41 yJ7_fill cJ7_fill 4 none 2 := ⟨⟨xt_of (List.mem_of_getElem? (i := 199) rfl) rfl, xt_of (by decide +kernel) rfl, xt_of (by decide +kernel) rfl, by decide +kernel⟩, xt_of (by decide +kernel) rfl⟩
set_option maxHeartbeats 4000000 in
set_option maxRecDepth 100000 in
theorem t_fill_S4 {X : xz_X} {ad : Nat → Nat} {cA : ClassId} {s : zT} : ∀ (n i : Nat), i + n = 4096 → xfin X cA 0 0 none (wd ad cA (mFill s 4)) → xs X cA RJ7 cJ7_fill 4 none R_fill (wd ad cA (mFillL s 4 i)) 0 0 5 [(3, .int (nI 4096)), (2, .int (nI i)), (1, .int (zs 0)), (0, .ref (ad 7))] [] := by
  intro n
  induction n with
  | zero =>
    intro i hi hX
    refine xs_iload_n 1 dJ7_fill_5 rfl ?_
    refine xs_iload_n 0 dJ7_fill_6 rfl ?_
    refine xs_icmp_ge (t := 20) dJ7_fill_7 (by decide) (fun c7 => ?_) (fun c7 => ?_)
    · exact xs_vret hX rfl dJ7_fill_20 (by rw [show i = 4096 by omega]; rfl)
    · exact absurd (kn_le (m := 4096) (by omega) (by omega)) c7
  | succ n ih =>
    intro i hi hX
    refine xs_iload_n 1 dJ7_fill_5 rfl ?_
    refine xs_iload_n 0 dJ7_fill_6 rfl ?_
    refine xs_icmp_ge (t := 20) dJ7_fill_7 (by decide) (fun c7 => ?_) (fun c7 => ?_)
    · exact absurd c7 (kn_nle (m := 4096) (by omega) (by decide))
    · refine xs_aload_n 3 dJ7_fill_10 rfl ?_
      refine xs_iload_n 1 dJ7_fill_11 rfl ?_
      refine xs_iload_n 2 dJ7_fill_12 rfl ?_
      refine asn_S4 dJ7_fill_13 (by omega) ?_
      refine xs_iinc_n (L' := [(2, _), (3, _), (1, _), (0, _)]) 1 dJ7_fill_14 rfl (by decide) rfl ?_
      refine xs_goto (t := 5) dJ7_fill_17 (by decide) ?_
      rw [fill_s]
      refine xs_sub (L' := [(3, _), (2, _), (1, _), (0, _)]) [1, 0, 2, 3] rfl ?_
      exact ih _ (by omega) hX
set_option maxHeartbeats 4000000 in
set_option maxRecDepth 100000 in
theorem c_fill_S4 (ad : Nat → Nat) (cA : ClassId) (s : zT) : xct cA yJ7_fill cJ7_fill 4 none R_fill [.ref (ad 7), .int (zs 0)] (wd ad cA s) none (wd ad cA (mFill s 4)) := by
  refine xct_of (own := RJ7) (by decide) rfl (Nat.le_of_ble_eq_true rfl) (fun X hX => ?_)
  show xs X cA RJ7 cJ7_fill 4 none R_fill (wd ad cA s) 0 0 0 [(0, .ref (ad 7)), (1, .int (zs 0))] []
  refine xs_iconst (v := nI 0) dJ7_fill_0 rfl ?_
  refine xs_istore_n (L' := [(2, _), (0, _), (1, _)]) dJ7_fill_1 (by decide) rfl ?_
  refine xs_aload_n 1 dJ7_fill_2 rfl ?_
  refine xs_alen (N := 4096) 7 dJ7_fill_3 rfl ?_
  refine xs_istore_n (L' := [(3, _), (2, _), (0, _), (1, _)]) dJ7_fill_4 (by decide) rfl ?_
  refine xs_sub (L' := [(3, _), (2, _), (1, _), (0, _)]) [0, 1, 3, 2] rfl ?_
  rw [← fill_0 s 4]
  exact t_fill_S4 4096 0 rfl hX
theorem k_fill_S4 {X : xz_X} {cA : ClassId} {own : String} {ad : Nat → Nat} {cc : ByteArray} {nL : Nat} {ret : Option FieldType} {R : Room} {s : zT} {pc ix : Nat} {L : List (Nat × Value)} {st : List Value} (d : decode cc pc = .ok (.invokestatic ix, 3)) (hw : xwS own ix yJ7_fill cJ7_fill 4 none 2) (hR : xroom R_fill 4 R) (hst : (st.map fun v => v.category).sum ≤ 8) (kk : xs X cA own cc nL ret R (wd ad cA (mFill s 4)) 0 0 (pc + 3) L st) : xs X cA own cc nL ret R (wd ad cA s) 0 0 pc L (.int (zs 0) :: .ref (ad 7) :: st) :=
  xs_callS (c_fill_S4 ad cA s) rfl rfl d hw hR rfl hst ⟨Nat.zero_le _, Nat.zero_le _⟩ kk
set_option maxHeartbeats 4000000 in
set_option maxRecDepth 100000 in
theorem t_fill_S5 {X : xz_X} {ad : Nat → Nat} {cA : ClassId} {s : zT} : ∀ (n i : Nat), i + n = 4096 → xfin X cA 0 0 none (wd ad cA (mFill s 5)) → xs X cA RJ7 cJ7_fill 4 none R_fill (wd ad cA (mFillL s 5 i)) 0 0 5 [(3, .int (nI 4096)), (2, .int (nI i)), (1, .int (zs 0)), (0, .ref (ad 8))] [] := by
  intro n
  induction n with
  | zero =>
    intro i hi hX
    refine xs_iload_n 1 dJ7_fill_5 rfl ?_
    refine xs_iload_n 0 dJ7_fill_6 rfl ?_
    refine xs_icmp_ge (t := 20) dJ7_fill_7 (by decide) (fun c7 => ?_) (fun c7 => ?_)
    · exact xs_vret hX rfl dJ7_fill_20 (by rw [show i = 4096 by omega]; rfl)
    · exact absurd (kn_le (m := 4096) (by omega) (by omega)) c7
  | succ n ih =>
    intro i hi hX
    refine xs_iload_n 1 dJ7_fill_5 rfl ?_
    refine xs_iload_n 0 dJ7_fill_6 rfl ?_
    refine xs_icmp_ge (t := 20) dJ7_fill_7 (by decide) (fun c7 => ?_) (fun c7 => ?_)
    · exact absurd c7 (kn_nle (m := 4096) (by omega) (by decide))
    · refine xs_aload_n 3 dJ7_fill_10 rfl ?_
      refine xs_iload_n 1 dJ7_fill_11 rfl ?_
      refine xs_iload_n 2 dJ7_fill_12 rfl ?_
      refine asn_S5 dJ7_fill_13 (by omega) ?_
      refine xs_iinc_n (L' := [(2, _), (3, _), (1, _), (0, _)]) 1 dJ7_fill_14 rfl (by decide) rfl ?_
      refine xs_goto (t := 5) dJ7_fill_17 (by decide) ?_
      rw [fill_s]
      refine xs_sub (L' := [(3, _), (2, _), (1, _), (0, _)]) [1, 0, 2, 3] rfl ?_
      exact ih _ (by omega) hX
set_option maxHeartbeats 4000000 in
set_option maxRecDepth 100000 in
theorem c_fill_S5 (ad : Nat → Nat) (cA : ClassId) (s : zT) : xct cA yJ7_fill cJ7_fill 4 none R_fill [.ref (ad 8), .int (zs 0)] (wd ad cA s) none (wd ad cA (mFill s 5)) := by
  refine xct_of (own := RJ7) (by decide) rfl (Nat.le_of_ble_eq_true rfl) (fun X hX => ?_)
  show xs X cA RJ7 cJ7_fill 4 none R_fill (wd ad cA s) 0 0 0 [(0, .ref (ad 8)), (1, .int (zs 0))] []
  refine xs_iconst (v := nI 0) dJ7_fill_0 rfl ?_
  refine xs_istore_n (L' := [(2, _), (0, _), (1, _)]) dJ7_fill_1 (by decide) rfl ?_
  refine xs_aload_n 1 dJ7_fill_2 rfl ?_
  refine xs_alen (N := 4096) 8 dJ7_fill_3 rfl ?_
  refine xs_istore_n (L' := [(3, _), (2, _), (0, _), (1, _)]) dJ7_fill_4 (by decide) rfl ?_
  refine xs_sub (L' := [(3, _), (2, _), (1, _), (0, _)]) [0, 1, 3, 2] rfl ?_
  rw [← fill_0 s 5]
  exact t_fill_S5 4096 0 rfl hX
theorem k_fill_S5 {X : xz_X} {cA : ClassId} {own : String} {ad : Nat → Nat} {cc : ByteArray} {nL : Nat} {ret : Option FieldType} {R : Room} {s : zT} {pc ix : Nat} {L : List (Nat × Value)} {st : List Value} (d : decode cc pc = .ok (.invokestatic ix, 3)) (hw : xwS own ix yJ7_fill cJ7_fill 4 none 2) (hR : xroom R_fill 4 R) (hst : (st.map fun v => v.category).sum ≤ 8) (kk : xs X cA own cc nL ret R (wd ad cA (mFill s 5)) 0 0 (pc + 3) L st) : xs X cA own cc nL ret R (wd ad cA s) 0 0 pc L (.int (zs 0) :: .ref (ad 8) :: st) :=
  xs_callS (c_fill_S5 ad cA s) rfl rfl d hw hR rfl hst ⟨Nat.zero_le _, Nat.zero_le _⟩ kk
abbrev R_Bi_code : Room := { frames := 0, cells := 0, slots := 0, locals := 0 }
set_option maxHeartbeats 4000000 in
set_option maxRecDepth 100000 in
theorem c_Bi_code (ad : Nat → Nat) (cA : ClassId) (s : zT) (key : Int32) : xct cA yX0_codeOf cX0_codeOf 2 (some .int) R_Bi_code [.ref (ad 1), .int key] (wd ad cA s) (some (.int (mBi_code s key))) (wd ad cA s) := by
  refine xct_of (own := RX0) (by decide) rfl (Nat.le_of_ble_eq_true rfl) (fun X hX => ?_)
  show xs X cA RX0 cX0_codeOf 2 (some .int) R_Bi_code (wd ad cA s) 0 0 0 [(0, .ref (ad 1)), (1, .int key)] []
  refine xs_aload_n 0 dX0_codeOf_0 rfl ?_
  refine g_Bi_function dX0_codeOf_1 ?_
  by_cases h1 : s.2 4 4 = 1
  · refine xs_lookup (t := 32) (off := 28) dX0_codeOf_4 (by decide) (by rw [h1]; decide) (by decide) ?_
    refine xs_iload_n 1 dX0_codeOf_32 rfl ?_
    refine xs_iconst (v := 3) dX0_codeOf_33 (by decide) ?_
    refine xs_iand dX0_codeOf_34 ?_
    exact xs_iret hX rfl dX0_codeOf_35 (by simp only [mBi_code, if_pos h1]) rfl
  · by_cases h2 : s.2 4 4 = 2
    · refine xs_lookup (t := 36) (off := 32) dX0_codeOf_4 (by decide) (by rw [h2]; decide) (by decide) ?_
      refine xs_iload_n 1 dX0_codeOf_36 rfl ?_
      refine xs_ldc (v := (-1640531527)) dX0_codeOf_37 (xt_of (by decide +kernel) rfl) ?_
      refine xs_imul dX0_codeOf_39 ?_
      exact xs_iret hX rfl dX0_codeOf_40 (by simp only [mBi_code, if_neg h1, if_pos h2]) rfl
    · refine xs_lookup (t := 41) (off := 37) dX0_codeOf_4 (by decide) ?_ (by decide) ?_
      · show Op.lookupswitch.offset [(1, 28), (2, 32)] 37 (s.2 4 4).toInt = 37
        rw [Op.lookupswitch.offset_cons, if_neg (fun q => h1 (Int32.toInt_inj.mp (show (s.2 4 4).toInt = (1 : Int32).toInt from q.symm.trans (by decide)))), Op.lookupswitch.offset_cons, if_neg (fun q => h2 (Int32.toInt_inj.mp (show (s.2 4 4).toInt = (2 : Int32).toInt from q.symm.trans (by decide)))), Op.lookupswitch.offset_nil]
      · refine xs_iload_n 1 dX0_codeOf_41 rfl ?_
        exact xs_iret hX rfl dX0_codeOf_42 (by simp only [mBi_code, if_neg h1, if_neg h2]) rfl
theorem k_Bi_code {X : xz_X} {cA : ClassId} {own : String} {ad : Nat → Nat} {cc : ByteArray} {nL : Nat} {ret : Option FieldType} {R : Room} {s : zT} {pc ix : Nat} {L : List (Nat × Value)} {st : List Value} {key : Int32} (d : decode cc pc = .ok (.invokevirtual ix, 3)) (hw : xwV own ix yX0_codeOf cX0_codeOf 2 (some .int) 1) (hR : xroom R_Bi_code 2 R) (hst : (st.map fun v => v.category).sum ≤ 8) (kk : xs X cA own cc nL ret R (wd ad cA s) 0 0 (pc + 3) L (.int (mBi_code s key) :: st)) : xs X cA own cc nL ret R (wd ad cA s) 0 0 pc L (.int key :: .ref (ad 1) :: st) :=
  xs_call 1 (c_Bi_code ad cA s key) rfl rfl d hw hR rfl rfl rfl hst ⟨Nat.zero_le _, Nat.zero_le _⟩ kk

abbrev R_Bi_keyOf : Room := { frames := 1, cells := 0, slots := 0, locals := 21 }
set_option maxRecDepth 100000 in
theorem kw_Bi_Tr_keyOf : xwV RX0 47 yX2_keyOf cX2_keyOf 2 (some .int) 1 := ⟨⟨xt_of (List.mem_of_getElem? (i := 176) rfl) rfl, xt_of (by decide +kernel) rfl, xt_of (by decide +kernel) rfl, by decide +kernel⟩, xt_of (by decide +kernel) rfl, xt_of (by decide +kernel) rfl⟩
set_option maxHeartbeats 4000000 in
set_option maxRecDepth 100000 in
theorem c_Bi_keyOf (ad : Nat → Nat) (cA : ClassId) (s : zT) (a : zS) : xct cA yX0_keyOf cX0_keyOf 2 (some .int) R_Bi_keyOf [.ref (ad 1), .int (zs a)] (wd ad cA s) (some (.int (s.2 0 a))) (wd ad cA (s)) := by
  refine xct_of (own := RX0) (by decide) rfl (Nat.le_of_ble_eq_true rfl) (fun X hX => ?_)
  show xs X cA RX0 cX0_keyOf 2 (some .int) R_Bi_keyOf (wd ad cA s) 0 0 0 [(0, .ref (ad 1)), (1, .int (zs a))] []
  refine xs_aload_n 0 dX0_keyOf_0 rfl ?_
  refine g_Bi_trees dX0_keyOf_1 ?_
  refine xs_iload_n 1 dX0_keyOf_4 rfl ?_
  refine k_Tr_keyOf dX0_keyOf_5 kw_Bi_Tr_keyOf (by decide) (Nat.le_of_ble_eq_true rfl) ?_
  exact xs_iret hX rfl dX0_keyOf_8 rfl rfl
theorem k_Bi_keyOf {X : xz_X} {cA : ClassId} {own : String} {ad : Nat → Nat} {cc : ByteArray} {nL : Nat} {ret : Option FieldType} {R : Room} {s : zT} {pc ix : Nat} {L : List (Nat × Value)} {st : List Value} {a : zS} (d : decode cc pc = .ok (.invokevirtual ix, 3)) (hw : xwV own ix yX0_keyOf cX0_keyOf 2 (some .int) 1) (hR : xroom R_Bi_keyOf 2 R) (hst : (st.map fun v => v.category).sum ≤ 8) (kk : xs X cA own cc nL ret R (wd ad cA (s)) 0 0 (pc + 3) L (.int (s.2 0 a) :: st)) : xs X cA own cc nL ret R (wd ad cA s) 0 0 pc L (.int (zs a) :: .ref (ad 1) :: st) :=
  xs_call 1 (c_Bi_keyOf ad cA s a) rfl rfl d hw hR rfl rfl rfl hst ⟨Nat.zero_le _, Nat.zero_le _⟩ kk
abbrev R_Bi_name : Room := { frames := 1, cells := 0, slots := 0, locals := 22 }
set_option maxRecDepth 100000 in
theorem kw_Bi_Tr_name : xwV RX0 51 yX2_name cX2_name 3 none 2 := ⟨⟨xt_of (List.mem_of_getElem? (i := 427) rfl) rfl, xt_of (by decide +kernel) rfl, xt_of (by decide +kernel) rfl, by decide +kernel⟩, xt_of (by decide +kernel) rfl, xt_of (by decide +kernel) rfl⟩
set_option maxHeartbeats 4000000 in
set_option maxRecDepth 100000 in
theorem c_Bi_name (ad : Nat → Nat) (cA : ClassId) (s : zT) (a : zS) (x : Int32) : xct cA yX0_name cX0_name 3 none R_Bi_name [.ref (ad 1), .int (zs a), .int x] (wd ad cA s) none (wd ad cA (u2 s 0 a x)) := by
  refine xct_of (own := RX0) (by decide) rfl (Nat.le_of_ble_eq_true rfl) (fun X hX => ?_)
  show xs X cA RX0 cX0_name 3 none R_Bi_name (wd ad cA s) 0 0 0 [(0, .ref (ad 1)), (1, .int (zs a)), (2, .int x)] []
  refine xs_aload_n 0 dX0_name_0 rfl ?_
  refine g_Bi_trees dX0_name_1 ?_
  refine xs_iload_n 1 dX0_name_4 rfl ?_
  refine xs_iload_n 2 dX0_name_5 rfl ?_
  refine k_Tr_name dX0_name_6 kw_Bi_Tr_name (by decide) (Nat.le_of_ble_eq_true rfl) ?_
  exact xs_vret hX rfl dX0_name_9 rfl
theorem k_Bi_name {X : xz_X} {cA : ClassId} {own : String} {ad : Nat → Nat} {cc : ByteArray} {nL : Nat} {ret : Option FieldType} {R : Room} {s : zT} {pc ix : Nat} {L : List (Nat × Value)} {st : List Value} {a : zS} {x : Int32} (d : decode cc pc = .ok (.invokevirtual ix, 3)) (hw : xwV own ix yX0_name cX0_name 3 none 2) (hR : xroom R_Bi_name 3 R) (hst : (st.map fun v => v.category).sum ≤ 8) (kk : xs X cA own cc nL ret R (wd ad cA (u2 s 0 a x)) 0 0 (pc + 3) L (st)) : xs X cA own cc nL ret R (wd ad cA s) 0 0 pc L (.int x :: .int (zs a) :: .ref (ad 1) :: st) :=
  xs_call 1 (c_Bi_name ad cA s a x) rfl rfl d hw hR rfl rfl rfl hst ⟨Nat.zero_le _, Nat.zero_le _⟩ kk
abbrev R_Bi_tight : Room := { frames := 0, cells := 0, slots := 0, locals := 0 }
set_option maxHeartbeats 4000000 in
set_option maxRecDepth 100000 in
theorem c_Bi_tight (ad : Nat → Nat) (cA : ClassId) (s : zT) (c : Int32) : xct cA yX0_isTight cX0_isTight 2 (some .boolean) R_Bi_tight [.ref (ad 1), .int c] (wd ad cA s) (some (.int (zb (mBi_tight s c)))) (wd ad cA (s)) := by
  refine xct_of (own := RX0) (by decide) rfl (Nat.le_of_ble_eq_true rfl) (fun X hX => ?_)
  show xs X cA RX0 cX0_isTight 2 (some .boolean) R_Bi_tight (wd ad cA s) 0 0 0 [(0, .ref (ad 1)), (1, .int c)] []
  refine xs_iload_n 1 dX0_isTight_0 rfl ?_
  refine xs_iconst (v := 4) dX0_isTight_1 (by decide) ?_
  refine xs_imul dX0_isTight_2 ?_
  refine xs_aload_n 0 dX0_isTight_3 rfl ?_
  refine g_Bi_room dX0_isTight_4 ?_
  refine xs_iconst (v := 3) dX0_isTight_7 (by decide) ?_
  refine xs_imul dX0_isTight_8 ?_
  refine xs_icmp_le (t := 26) dX0_isTight_9 (by decide) (fun c9 => ?_) (fun c9 => ?_)
  · refine xs_iconst (v := zb false) dX0_isTight_26 rfl ?_
    exact xs_zret hX rfl dX0_isTight_27 (by simp [mBi_tight, c9]) rfl
  · refine xs_aload_n 0 dX0_isTight_12 rfl ?_
    refine g_Bi_room dX0_isTight_13 ?_
    refine xs_sipush (v := 4096) dX0_isTight_16 (by decide) ?_
    refine xs_icmp_ge (t := 26) dX0_isTight_19 (by decide) (fun c19 => ?_) (fun c19 => ?_)
    · refine xs_iconst (v := zb false) dX0_isTight_26 rfl ?_
      exact xs_zret hX rfl dX0_isTight_27 (by simp [mBi_tight, c9, c19]) rfl
    · refine xs_iconst (v := zb true) dX0_isTight_22 rfl ?_
      refine xs_goto (t := 27) dX0_isTight_23 (by decide) ?_
      exact xs_zret hX rfl dX0_isTight_27 (by simp [mBi_tight, c9, c19]) rfl
theorem k_Bi_tight {X : xz_X} {cA : ClassId} {own : String} {ad : Nat → Nat} {cc : ByteArray} {nL : Nat} {ret : Option FieldType} {R : Room} {s : zT} {pc ix : Nat} {L : List (Nat × Value)} {st : List Value} {c : Int32} (d : decode cc pc = .ok (.invokevirtual ix, 3)) (hw : xwV own ix yX0_isTight cX0_isTight 2 (some .boolean) 1) (hR : xroom R_Bi_tight 2 R) (hst : (st.map fun v => v.category).sum ≤ 8) (kk : xs X cA own cc nL ret R (wd ad cA (s)) 0 0 (pc + 3) L (.int (zb (mBi_tight s c)) :: st)) : xs X cA own cc nL ret R (wd ad cA s) 0 0 pc L (.int c :: .ref (ad 1) :: st) :=
  xs_call 1 (c_Bi_tight ad cA s c) rfl rfl d hw hR rfl rfl rfl hst ⟨Nat.zero_le _, Nat.zero_le _⟩ kk
abbrev R_Bi_next : Room := { frames := 0, cells := 0, slots := 0, locals := 0 }
set_option maxHeartbeats 4000000 in
set_option maxRecDepth 100000 in
theorem c_Bi_next (ad : Nat → Nat) (cA : ClassId) (s : zT) (a : zS) : xct cA yX0_nextInPlace cX0_nextInPlace 2 (some .int) R_Bi_next [.ref (ad 1), .int (zs a)] (wd ad cA s) (some (.int (zs (s.1 2 a)))) (wd ad cA (s)) := by
  refine xct_of (own := RX0) (by decide) rfl (Nat.le_of_ble_eq_true rfl) (fun X hX => ?_)
  show xs X cA RX0 cX0_nextInPlace 2 (some .int) R_Bi_next (wd ad cA s) 0 0 0 [(0, .ref (ad 1)), (1, .int (zs a))] []
  refine xs_aload_n 0 dX0_nextInPlace_0 rfl ?_
  refine g_Bi_next dX0_nextInPlace_1 ?_
  refine xs_iload_n 1 dX0_nextInPlace_4 rfl ?_
  refine al_S2 dX0_nextInPlace_5 ?_
  exact xs_iret hX rfl dX0_nextInPlace_6 rfl rfl
theorem k_Bi_next {X : xz_X} {cA : ClassId} {own : String} {ad : Nat → Nat} {cc : ByteArray} {nL : Nat} {ret : Option FieldType} {R : Room} {s : zT} {pc ix : Nat} {L : List (Nat × Value)} {st : List Value} {a : zS} (d : decode cc pc = .ok (.invokevirtual ix, 3)) (hw : xwV own ix yX0_nextInPlace cX0_nextInPlace 2 (some .int) 1) (hR : xroom R_Bi_next 2 R) (hst : (st.map fun v => v.category).sum ≤ 8) (kk : xs X cA own cc nL ret R (wd ad cA (s)) 0 0 (pc + 3) L (.int (zs (s.1 2 a)) :: st)) : xs X cA own cc nL ret R (wd ad cA s) 0 0 pc L (.int (zs a) :: .ref (ad 1) :: st) :=
  xs_call 1 (c_Bi_next ad cA s a) rfl rfl d hw hR rfl rfl rfl hst ⟨Nat.zero_le _, Nat.zero_le _⟩ kk
abbrev R_Bi_append : Room := { frames := 0, cells := 0, slots := 0, locals := 0 }
set_option maxHeartbeats 4000000 in
set_option maxRecDepth 100000 in
theorem c_Bi_append (ad : Nat → Nat) (cA : ClassId) (s : zT) (p : zP) (a : zS) : xct cA yX0_append cX0_append 5 none R_Bi_append [.ref (ad 1), .int (zp p), .int (zs a)] (wd ad cA s) none (wd ad cA (mBi_append s p a)) := by
  refine xct_of (own := RX0) (by decide) rfl (Nat.le_of_ble_eq_true rfl) (fun X hX => ?_)
  show xs X cA RX0 cX0_append 5 none R_Bi_append (wd ad cA s) 0 0 0 [(0, .ref (ad 1)), (1, .int (zp p)), (2, .int (zs a))] []
  refine xs_aload_n 0 dX0_append_0 rfl ?_
  refine g_Bi_heads dX0_append_1 ?_
  refine xs_iload_n 1 dX0_append_4 rfl ?_
  refine al_S4 dX0_append_5 ?_
  refine xs_istore_n (L' := [(3, _), (0, _), (1, _), (2, _)]) dX0_append_6 (by decide) rfl ?_
  refine xs_aload_n 1 dX0_append_7 rfl ?_
  refine g_Bi_next dX0_append_8 ?_
  refine xs_iload_n 3 dX0_append_11 rfl ?_
  refine xs_iconst (v := zs 0) dX0_append_12 rfl ?_
  refine as_S2 dX0_append_13 ?_
  refine xs_iload_n 0 dX0_append_14 rfl ?_
  refine xs_sif_ne (t := 35) dX0_append_15 (by decide) (fun c15 => ?_) (fun c15 => ?_)
  · refine xs_aload_n 1 dX0_append_35 rfl ?_
    refine g_Bi_previous dX0_append_36 ?_
    refine xs_iload_n 0 dX0_append_39 rfl ?_
    refine al_S3 dX0_append_40 ?_
    refine xs_istore (L' := [(4, _), (3, _), (0, _), (1, _), (2, _)]) dX0_append_41 (by decide) rfl ?_
    refine xs_aload_n 2 dX0_append_43 rfl ?_
    refine g_Bi_next dX0_append_44 ?_
    refine xs_iload 0 dX0_append_47 rfl ?_
    refine xs_iload_n 4 dX0_append_49 rfl ?_
    refine as_S2 dX0_append_50 ?_
    refine xs_aload_n 2 dX0_append_51 rfl ?_
    refine g_Bi_previous dX0_append_52 ?_
    refine xs_iload_n 4 dX0_append_55 rfl ?_
    refine xs_iload 0 dX0_append_56 rfl ?_
    refine as_S3 dX0_append_58 ?_
    refine xs_aload_n 2 dX0_append_59 rfl ?_
    refine g_Bi_previous dX0_append_60 ?_
    refine xs_iload_n 1 dX0_append_63 rfl ?_
    refine xs_iload_n 4 dX0_append_64 rfl ?_
    refine as_S3 dX0_append_65 ?_
    exact xs_vret hX rfl dX0_append_66 (by simp only [mBi_append, if_neg c15])
  · refine xs_aload_n 1 dX0_append_18 rfl ?_
    refine g_Bi_heads dX0_append_19 ?_
    refine xs_iload_n 2 dX0_append_22 rfl ?_
    refine xs_iload_n 3 dX0_append_23 rfl ?_
    refine as_S4 dX0_append_24 ?_
    refine xs_aload_n 1 dX0_append_25 rfl ?_
    refine g_Bi_previous dX0_append_26 ?_
    refine xs_iload_n 3 dX0_append_29 rfl ?_
    refine xs_iload_n 3 dX0_append_30 rfl ?_
    refine as_S3 dX0_append_31 ?_
    refine xs_goto (t := 66) dX0_append_32 (by decide) ?_
    exact xs_vret hX rfl dX0_append_66 (by simp only [mBi_append, if_pos c15])
theorem k_Bi_append {X : xz_X} {cA : ClassId} {own : String} {ad : Nat → Nat} {cc : ByteArray} {nL : Nat} {ret : Option FieldType} {R : Room} {s : zT} {pc ix : Nat} {L : List (Nat × Value)} {st : List Value} {p : zP} {a : zS} (d : decode cc pc = .ok (.invokevirtual ix, 3)) (hw : xwV own ix yX0_append cX0_append 5 none 2) (hR : xroom R_Bi_append 5 R) (hst : (st.map fun v => v.category).sum ≤ 8) (kk : xs X cA own cc nL ret R (wd ad cA (mBi_append s p a)) 0 0 (pc + 3) L (st)) : xs X cA own cc nL ret R (wd ad cA s) 0 0 pc L (.int (zs a) :: .int (zp p) :: .ref (ad 1) :: st) :=
  xs_call 1 (c_Bi_append ad cA s p a) rfl rfl d hw hR rfl rfl rfl hst ⟨Nat.zero_le _, Nat.zero_le _⟩ kk
abbrev R_Bi_unlink : Room := { frames := 0, cells := 0, slots := 0, locals := 0 }
set_option maxHeartbeats 4000000 in
set_option maxRecDepth 100000 in
theorem c_Bi_unlink (ad : Nat → Nat) (cA : ClassId) (s : zT) (p : zP) (a : zS) : xct cA yX0_unlink cX0_unlink 6 none R_Bi_unlink [.ref (ad 1), .int (zp p), .int (zs a)] (wd ad cA s) none (wd ad cA (mBi_unlink s p a)) := by
  refine xct_of (own := RX0) (by decide) rfl (Nat.le_of_ble_eq_true rfl) (fun X hX => ?_)
  show xs X cA RX0 cX0_unlink 6 none R_Bi_unlink (wd ad cA s) 0 0 0 [(0, .ref (ad 1)), (1, .int (zp p)), (2, .int (zs a))] []
  refine xs_aload_n 0 dX0_unlink_0 rfl ?_
  refine g_Bi_heads dX0_unlink_1 ?_
  refine xs_iload_n 1 dX0_unlink_4 rfl ?_
  refine al_S4 dX0_unlink_5 ?_
  refine xs_istore_n (L' := [(3, _), (0, _), (1, _), (2, _)]) dX0_unlink_6 (by decide) rfl ?_
  refine xs_aload_n 1 dX0_unlink_7 rfl ?_
  refine g_Bi_previous dX0_unlink_8 ?_
  refine xs_iload_n 3 dX0_unlink_11 rfl ?_
  refine al_S3 dX0_unlink_12 ?_
  refine xs_istore (L' := [(4, _), (3, _), (0, _), (1, _), (2, _)]) dX0_unlink_13 (by decide) rfl ?_
  refine xs_aload_n 2 dX0_unlink_15 rfl ?_
  refine g_Bi_next dX0_unlink_16 ?_
  refine xs_iload_n 4 dX0_unlink_19 rfl ?_
  refine al_S2 dX0_unlink_20 ?_
  refine xs_istore (L' := [(5, _), (4, _), (3, _), (0, _), (1, _), (2, _)]) dX0_unlink_21 (by decide) rfl ?_
  refine xs_iload_n 5 dX0_unlink_23 rfl ?_
  refine xs_iload_n 2 dX0_unlink_24 rfl ?_
  refine xs_scmp_ne (t := 39) dX0_unlink_25 (by decide) (fun c25 => ?_) (fun c25 => ?_)
  · refine xs_aload_n 3 dX0_unlink_39 rfl ?_
    refine g_Bi_next dX0_unlink_40 ?_
    refine xs_iload 1 dX0_unlink_43 rfl ?_
    refine xs_iload 0 dX0_unlink_45 rfl ?_
    refine as_S2 dX0_unlink_47 ?_
    refine xs_iload 0 dX0_unlink_48 rfl ?_
    refine xs_sif_eq (t := 65) dX0_unlink_50 (by decide) (fun c50 => ?_) (fun c50 => ?_)
    · refine xs_iload_n 5 dX0_unlink_65 rfl ?_
      refine xs_iload_n 2 dX0_unlink_66 rfl ?_
      refine xs_scmp_eq (t := 78) dX0_unlink_67 (by decide) (fun c67 => ?_) (fun c67 => ?_)
      · exact xs_vret hX rfl dX0_unlink_78 (by first | exact absurd c25 c67 | exact absurd c67 c25 | simp only [mBi_unlink, if_neg c25, if_pos c50, if_pos c67])
      · refine xs_aload_n 3 dX0_unlink_70 rfl ?_
        refine g_Bi_previous dX0_unlink_71 ?_
        refine xs_iload_n 2 dX0_unlink_74 rfl ?_
        refine xs_iload 1 dX0_unlink_75 rfl ?_
        refine as_S3 dX0_unlink_77 ?_
        exact xs_vret hX rfl dX0_unlink_78 (by first | exact absurd c25 c67 | exact absurd c67 c25 | simp only [mBi_unlink, if_neg c25, if_pos c50, if_neg c67])
    · refine xs_aload_n 3 dX0_unlink_53 rfl ?_
      refine g_Bi_previous dX0_unlink_54 ?_
      refine xs_iload 0 dX0_unlink_57 rfl ?_
      refine xs_iload 1 dX0_unlink_59 rfl ?_
      refine as_S3 dX0_unlink_61 ?_
      refine xs_goto (t := 78) dX0_unlink_62 (by decide) ?_
      exact xs_vret hX rfl dX0_unlink_78 (by first | exact absurd c25 c67 | exact absurd c67 c25 | simp only [mBi_unlink, if_neg c25, if_neg c50])
  · refine xs_aload_n 3 dX0_unlink_28 rfl ?_
    refine g_Bi_heads dX0_unlink_29 ?_
    refine xs_iload_n 4 dX0_unlink_32 rfl ?_
    refine xs_iload 0 dX0_unlink_33 rfl ?_
    refine as_S4 dX0_unlink_35 ?_
    refine xs_goto (t := 48) dX0_unlink_36 (by decide) ?_
    refine xs_iload 0 dX0_unlink_48 rfl ?_
    refine xs_sif_eq (t := 65) dX0_unlink_50 (by decide) (fun c50 => ?_) (fun c50 => ?_)
    · refine xs_iload_n 5 dX0_unlink_65 rfl ?_
      refine xs_iload_n 2 dX0_unlink_66 rfl ?_
      refine xs_scmp_eq (t := 78) dX0_unlink_67 (by decide) (fun c67 => ?_) (fun c67 => ?_)
      · exact xs_vret hX rfl dX0_unlink_78 (by first | exact absurd c25 c67 | exact absurd c67 c25 | simp only [mBi_unlink, if_pos c25, if_pos c50, if_pos c67])
      · refine xs_aload_n 3 dX0_unlink_70 rfl ?_
        refine g_Bi_previous dX0_unlink_71 ?_
        refine xs_iload_n 2 dX0_unlink_74 rfl ?_
        refine xs_iload 1 dX0_unlink_75 rfl ?_
        refine as_S3 dX0_unlink_77 ?_
        exact xs_vret hX rfl dX0_unlink_78 (by first | exact absurd c25 c67 | exact absurd c67 c25 | simp only [mBi_unlink, if_pos c25, if_pos c50, if_neg c67])
    · refine xs_aload_n 3 dX0_unlink_53 rfl ?_
      refine g_Bi_previous dX0_unlink_54 ?_
      refine xs_iload 0 dX0_unlink_57 rfl ?_
      refine xs_iload 1 dX0_unlink_59 rfl ?_
      refine as_S3 dX0_unlink_61 ?_
      refine xs_goto (t := 78) dX0_unlink_62 (by decide) ?_
      exact xs_vret hX rfl dX0_unlink_78 (by first | exact absurd c25 c67 | exact absurd c67 c25 | simp only [mBi_unlink, if_pos c25, if_neg c50])
theorem k_Bi_unlink {X : xz_X} {cA : ClassId} {own : String} {ad : Nat → Nat} {cc : ByteArray} {nL : Nat} {ret : Option FieldType} {R : Room} {s : zT} {pc ix : Nat} {L : List (Nat × Value)} {st : List Value} {p : zP} {a : zS} (d : decode cc pc = .ok (.invokevirtual ix, 3)) (hw : xwV own ix yX0_unlink cX0_unlink 6 none 2) (hR : xroom R_Bi_unlink 6 R) (hst : (st.map fun v => v.category).sum ≤ 8) (kk : xs X cA own cc nL ret R (wd ad cA (mBi_unlink s p a)) 0 0 (pc + 3) L (st)) : xs X cA own cc nL ret R (wd ad cA s) 0 0 pc L (.int (zs a) :: .int (zp p) :: .ref (ad 1) :: st) :=
  xs_call 1 (c_Bi_unlink ad cA s p a) rfl rfl d hw hR rfl rfl rfl hst ⟨Nat.zero_le _, Nat.zero_le _⟩ kk
abbrev R_Bi_long : Room := { frames := 0, cells := 0, slots := 0, locals := 0 }
set_option maxHeartbeats 4000000 in
set_option maxRecDepth 100000 in
theorem t_Bi_long {X : xz_X} {ad : Nat → Nat} {cA : ClassId} {s : zT} : ∀ (n i : Nat) (a : zS), i + n = 8 → xfin X cA 0 0 (some (.int (zb (!decide (mBi_longL s n a = 0))))) (wd ad cA (s)) → xs X cA RX0 cX0_isLong 4 (some .boolean) R_Bi_long (wd ad cA s) 0 0 9 [(3, .int (nI i)), (2, .int (zs a)), (0, .ref (ad 1))] [] := by
  intro n
  induction n with
  | zero =>
    intro i a hi hX
    refine xs_iload_n 0 dX0_isLong_9 rfl ?_
    refine xs_bipush (v := 8) dX0_isLong_10 (by decide) ?_
    refine xs_icmp_ge (t := 32) dX0_isLong_12 (by decide) (fun c12 => ?_) (fun c12 => ?_)
    · refine xs_iload_n 1 dX0_isLong_32 rfl ?_
      refine xs_sif_eq (t := 40) dX0_isLong_33 (by decide) (fun c33 => ?_) (fun c33 => ?_)
      · refine xs_iconst (v := zb false) dX0_isLong_40 rfl ?_
        exact xs_zret hX rfl dX0_isLong_41 (by simp [mBi_longL, c33]) rfl
      · refine xs_iconst (v := zb true) dX0_isLong_36 rfl ?_
        refine xs_goto (t := 41) dX0_isLong_37 (by decide) ?_
        exact xs_zret hX rfl dX0_isLong_41 (by simp [mBi_longL, c33]) rfl
    · exact absurd (show (8 : Int32) ≤ nI i from kn_le (m := 8) (by omega) (by omega)) c12
  | succ n ih =>
    intro i a hi hX
    refine xs_iload_n 0 dX0_isLong_9 rfl ?_
    refine xs_bipush (v := 8) dX0_isLong_10 (by decide) ?_
    refine xs_icmp_ge (t := 32) dX0_isLong_12 (by decide) (fun c12 => ?_) (fun c12 => ?_)
    · exact absurd c12 (show ¬ (8 : Int32) ≤ nI i from kn_nle (m := 8) (by omega) (by decide))
    · refine xs_iload_n 1 dX0_isLong_15 rfl ?_
      refine xs_sif_eq (t := 32) dX0_isLong_16 (by decide) (fun c16 => ?_) (fun c16 => ?_)
      · refine xs_iload_n 1 dX0_isLong_32 rfl ?_
        refine xs_sif_eq (t := 40) dX0_isLong_33 (by decide) (fun c33 => ?_) (fun c33 => ?_)
        · refine xs_iconst (v := zb false) dX0_isLong_40 rfl ?_
          exact xs_zret hX rfl dX0_isLong_41 (by first | exact absurd c16 c33 | simp [mBi_longL, c16]) rfl
        · refine xs_iconst (v := zb true) dX0_isLong_36 rfl ?_
          refine xs_goto (t := 41) dX0_isLong_37 (by decide) ?_
          exact xs_zret hX rfl dX0_isLong_41 (by first | exact absurd c16 c33 | simp [mBi_longL, c16]) rfl
      · refine xs_aload_n 2 dX0_isLong_19 rfl ?_
        refine g_Bi_next dX0_isLong_20 ?_
        refine xs_iload_n 1 dX0_isLong_23 rfl ?_
        refine al_S2 dX0_isLong_24 ?_
        refine xs_istore_n (L' := [(2, _), (3, _), (0, _)]) dX0_isLong_25 (by decide) rfl ?_
        refine xs_iinc_n (L' := [(3, _), (2, _), (0, _)]) 1 dX0_isLong_26 rfl (by decide) rfl ?_
        refine xs_goto (t := 9) dX0_isLong_29 (by decide) ?_
        refine xs_sub (L' := [(3, _), (2, _), (0, _)]) [0, 1, 2] rfl ?_
        exact ih _ _ (by omega) (by simp only [mBi_longL, if_neg c12, if_neg c16] at hX; exact hX)
set_option maxHeartbeats 4000000 in
set_option maxRecDepth 100000 in
theorem c_Bi_long (ad : Nat → Nat) (cA : ClassId) (s : zT) (p : zP) : xct cA yX0_isLong cX0_isLong 4 (some .boolean) R_Bi_long [.ref (ad 1), .int (zp p)] (wd ad cA s) (some (.int (zb (mBi_long s p)))) (wd ad cA (s)) := by
  refine xct_of (own := RX0) (by decide) rfl (Nat.le_of_ble_eq_true rfl) (fun X hX => ?_)
  show xs X cA RX0 cX0_isLong 4 (some .boolean) R_Bi_long (wd ad cA s) 0 0 0 [(0, .ref (ad 1)), (1, .int (zp p))] []
  refine xs_aload_n 0 dX0_isLong_0 rfl ?_
  refine g_Bi_heads dX0_isLong_1 ?_
  refine xs_iload_n 1 dX0_isLong_4 rfl ?_
  refine al_S4 dX0_isLong_5 ?_
  refine xs_istore_n (L' := [(2, _), (0, _), (1, _)]) dX0_isLong_6 (by decide) rfl ?_
  refine xs_iconst (v := nI 0) dX0_isLong_7 rfl ?_
  refine xs_istore_n (L' := [(3, _), (2, _), (0, _), (1, _)]) dX0_isLong_8 (by decide) rfl ?_
  refine xs_sub (L' := [(3, _), (2, _), (0, _)]) [0, 1, 2] rfl ?_
  exact t_Bi_long 8 0 _ rfl hX
theorem k_Bi_long {X : xz_X} {cA : ClassId} {own : String} {ad : Nat → Nat} {cc : ByteArray} {nL : Nat} {ret : Option FieldType} {R : Room} {s : zT} {pc ix : Nat} {L : List (Nat × Value)} {st : List Value} {p : zP} (d : decode cc pc = .ok (.invokevirtual ix, 3)) (hw : xwV own ix yX0_isLong cX0_isLong 4 (some .boolean) 1) (hR : xroom R_Bi_long 4 R) (hst : (st.map fun v => v.category).sum ≤ 8) (kk : xs X cA own cc nL ret R (wd ad cA (s)) 0 0 (pc + 3) L (.int (zb (mBi_long s p)) :: st)) : xs X cA own cc nL ret R (wd ad cA s) 0 0 pc L (.int (zp p) :: .ref (ad 1) :: st) :=
  xs_call 1 (c_Bi_long ad cA s p) rfl rfl d hw hR rfl rfl rfl hst ⟨Nat.zero_le _, Nat.zero_le _⟩ kk
abbrev R_Bi_len : Room := { frames := 0, cells := 0, slots := 0, locals := 0 }
set_option maxHeartbeats 4000000 in
set_option maxRecDepth 100000 in
theorem t_Bi_len {X : xz_X} {ad : Nat → Nat} {cA : ClassId} {s : zT} : ∀ (n i : Nat) (a : zS), i + n = 2002 → xfin X cA 0 0 (some (.int (mBi_lenL s n i a))) (wd ad cA (s)) → xs X cA RX0 cX0_lengthOf 4 (some .int) R_Bi_len (wd ad cA s) 0 0 9 [(2, .int (nI i)), (3, .int (zs a)), (0, .ref (ad 1))] [] := by
  intro n
  induction n with
  | zero =>
    intro i a hi hX
    refine xs_iload_n 1 dX0_lengthOf_9 rfl ?_
    refine xs_sif_eq (t := 33) dX0_lengthOf_10 (by decide) (fun c10 => ?_) (fun c10 => ?_)
    · refine xs_iload_n 0 dX0_lengthOf_33 rfl ?_
      exact xs_iret hX rfl dX0_lengthOf_34 rfl rfl
    · refine xs_iload_n 0 dX0_lengthOf_13 rfl ?_
      refine xs_sipush (v := 2002) dX0_lengthOf_14 (by decide) ?_
      refine xs_icmp_ge (t := 33) dX0_lengthOf_17 (by decide) (fun c17 => ?_) (fun c17 => ?_)
      · refine xs_iload_n 0 dX0_lengthOf_33 rfl ?_
        exact xs_iret hX rfl dX0_lengthOf_34 rfl rfl
      · exact absurd (show (2002 : Int32) ≤ nI i from kn_le (m := 2002) (by omega) (by omega)) c17
  | succ n ih =>
    intro i a hi hX
    refine xs_iload_n 1 dX0_lengthOf_9 rfl ?_
    refine xs_sif_eq (t := 33) dX0_lengthOf_10 (by decide) (fun c10 => ?_) (fun c10 => ?_)
    · refine xs_iload_n 0 dX0_lengthOf_33 rfl ?_
      exact xs_iret hX rfl dX0_lengthOf_34 (by simp only [mBi_lenL, if_pos c10]) rfl
    · refine xs_iload_n 0 dX0_lengthOf_13 rfl ?_
      refine xs_sipush (v := 2002) dX0_lengthOf_14 (by decide) ?_
      refine xs_icmp_ge (t := 33) dX0_lengthOf_17 (by decide) (fun c17 => ?_) (fun c17 => ?_)
      · exact absurd c17 (show ¬ (2002 : Int32) ≤ nI i from kn_nle (m := 2002) (by omega) (by decide))
      · refine xs_aload_n 2 dX0_lengthOf_20 rfl ?_
        refine g_Bi_next dX0_lengthOf_21 ?_
        refine xs_iload_n 1 dX0_lengthOf_24 rfl ?_
        refine al_S2 dX0_lengthOf_25 ?_
        refine xs_istore_n (L' := [(3, _), (2, _), (0, _)]) dX0_lengthOf_26 (by decide) rfl ?_
        refine xs_iinc_n (L' := [(2, _), (3, _), (0, _)]) 1 dX0_lengthOf_27 rfl (by decide) rfl ?_
        refine xs_goto (t := 9) dX0_lengthOf_30 (by decide) ?_
        refine xs_sub (L' := [(2, _), (3, _), (0, _)]) [0, 1, 2] rfl ?_
        exact ih _ _ (by omega) (by simp only [mBi_lenL, if_neg c10, if_neg c17] at hX; exact hX)
set_option maxHeartbeats 4000000 in
set_option maxRecDepth 100000 in
theorem c_Bi_len (ad : Nat → Nat) (cA : ClassId) (s : zT) (p : zP) : xct cA yX0_lengthOf cX0_lengthOf 4 (some .int) R_Bi_len [.ref (ad 1), .int (zp p)] (wd ad cA s) (some (.int (mBi_len s p))) (wd ad cA (s)) := by
  refine xct_of (own := RX0) (by decide) rfl (Nat.le_of_ble_eq_true rfl) (fun X hX => ?_)
  show xs X cA RX0 cX0_lengthOf 4 (some .int) R_Bi_len (wd ad cA s) 0 0 0 [(0, .ref (ad 1)), (1, .int (zp p))] []
  refine xs_iconst (v := nI 0) dX0_lengthOf_0 rfl ?_
  refine xs_istore_n (L' := [(2, _), (0, _), (1, _)]) dX0_lengthOf_1 (by decide) rfl ?_
  refine xs_aload_n 1 dX0_lengthOf_2 rfl ?_
  refine g_Bi_heads dX0_lengthOf_3 ?_
  refine xs_iload_n 2 dX0_lengthOf_6 rfl ?_
  refine al_S4 dX0_lengthOf_7 ?_
  refine xs_istore_n (L' := [(3, _), (2, _), (0, _), (1, _)]) dX0_lengthOf_8 (by decide) rfl ?_
  refine xs_sub (L' := [(2, _), (3, _), (0, _)]) [1, 0, 2] rfl ?_
  exact t_Bi_len 2002 0 _ rfl hX
theorem k_Bi_len {X : xz_X} {cA : ClassId} {own : String} {ad : Nat → Nat} {cc : ByteArray} {nL : Nat} {ret : Option FieldType} {R : Room} {s : zT} {pc ix : Nat} {L : List (Nat × Value)} {st : List Value} {p : zP} (d : decode cc pc = .ok (.invokevirtual ix, 3)) (hw : xwV own ix yX0_lengthOf cX0_lengthOf 4 (some .int) 1) (hR : xroom R_Bi_len 4 R) (hst : (st.map fun v => v.category).sum ≤ 8) (kk : xs X cA own cc nL ret R (wd ad cA (s)) 0 0 (pc + 3) L (.int (mBi_len s p) :: st)) : xs X cA own cc nL ret R (wd ad cA s) 0 0 pc L (.int (zp p) :: .ref (ad 1) :: st) :=
  xs_call 1 (c_Bi_len ad cA s p) rfl rfl d hw hR rfl rfl rfl hst ⟨Nat.zero_le _, Nat.zero_le _⟩ kk
abbrev R_Bi_place : Room := { frames := 1, cells := 0, slots := 0, locals := 21 }
set_option maxRecDepth 100000 in
theorem kw_Bi_Bi_code : xwV RX0 102 yX0_codeOf cX0_codeOf 2 (some .int) 1 := ⟨⟨xt_of (List.mem_of_getElem? (i := 167) rfl) rfl, xt_of (by decide +kernel) rfl, xt_of (by decide +kernel) rfl, by decide +kernel⟩, xt_of (by decide +kernel) rfl, xt_of (by decide +kernel) rfl⟩
set_option maxHeartbeats 4000000 in
set_option maxRecDepth 100000 in
theorem c_Bi_place (ad : Nat → Nat) (cA : ClassId) (s : zT) (key : Int32) (hr : rok s) : xct cA yX0_placeOf cX0_placeOf 3 (some .int) R_Bi_place [.ref (ad 1), .int key] (wd ad cA s) (some (.int (zp (mBi_place s key)))) (wd ad cA (s)) := by
  refine xct_of (own := RX0) (by decide) rfl (Nat.le_of_ble_eq_true rfl) (fun X hX => ?_)
  show xs X cA RX0 cX0_placeOf 3 (some .int) R_Bi_place (wd ad cA s) 0 0 0 [(0, .ref (ad 1)), (1, .int key)] []
  refine xs_aload_n 0 dX0_placeOf_0 rfl ?_
  refine xs_iload_n 1 dX0_placeOf_1 rfl ?_
  refine k_Bi_code dX0_placeOf_2 kw_Bi_Bi_code (by decide) (Nat.le_of_ble_eq_true rfl) ?_
  refine xs_istore_n (L' := [(2, _), (0, _), (1, _)]) dX0_placeOf_5 (by decide) rfl ?_
  refine xs_iload_n 0 dX0_placeOf_6 rfl ?_
  refine xs_iload_n 0 dX0_placeOf_7 rfl ?_
  refine xs_bipush (v := 16) dX0_placeOf_8 (by decide) ?_
  refine xs_iushr dX0_placeOf_10 ?_
  refine xs_ixor dX0_placeOf_11 ?_
  refine xs_aload_n 1 dX0_placeOf_12 rfl ?_
  refine g_Bi_room dX0_placeOf_13 ?_
  refine xs_iconst (v := 1) dX0_placeOf_16 (by decide) ?_
  refine xs_isub dX0_placeOf_17 ?_
  refine xs_iand dX0_placeOf_18 ?_
  exact xs_iret hX rfl dX0_placeOf_19 (place_eq hr) rfl
theorem k_Bi_place {X : xz_X} {cA : ClassId} {own : String} {ad : Nat → Nat} {cc : ByteArray} {nL : Nat} {ret : Option FieldType} {R : Room} {s : zT} {pc ix : Nat} {L : List (Nat × Value)} {st : List Value} {key : Int32} (d : decode cc pc = .ok (.invokevirtual ix, 3)) (hw : xwV own ix yX0_placeOf cX0_placeOf 3 (some .int) 1) (hR : xroom R_Bi_place 3 R) (hst : (st.map fun v => v.category).sum ≤ 8) (hr : rok s) (kk : xs X cA own cc nL ret R (wd ad cA (s)) 0 0 (pc + 3) L (.int (zp (mBi_place s key)) :: st)) : xs X cA own cc nL ret R (wd ad cA s) 0 0 pc L (.int key :: .ref (ad 1) :: st) :=
  xs_call 1 (c_Bi_place ad cA s key hr) rfl rfl d hw hR rfl rfl rfl hst ⟨Nat.zero_le _, Nat.zero_le _⟩ kk
abbrev R_Bi_find : Room := { frames := 2, cells := 0, slots := 0, locals := 43 }
set_option maxRecDepth 100000 in
theorem kw_Bi_Bi_place : xwV RX0 55 yX0_placeOf cX0_placeOf 3 (some .int) 1 := ⟨⟨xt_of (List.mem_of_getElem? (i := 163) rfl) rfl, xt_of (by decide +kernel) rfl, xt_of (by decide +kernel) rfl, by decide +kernel⟩, xt_of (by decide +kernel) rfl, xt_of (by decide +kernel) rfl⟩
set_option maxRecDepth 100000 in
theorem kw_Bi_Tr_find : xwV RX0 58 yX2_slotOf cX2_slotOf 5 (some .int) 2 := ⟨⟨xt_of (List.mem_of_getElem? (i := 172) rfl) rfl, xt_of (by decide +kernel) rfl, xt_of (by decide +kernel) rfl, by decide +kernel⟩, xt_of (by decide +kernel) rfl, xt_of (by decide +kernel) rfl⟩
set_option maxHeartbeats 4000000 in
set_option maxRecDepth 100000 in
theorem t_Bi_find {X : xz_X} {ad : Nat → Nat} {cA : ClassId} {s : zT} {key : Int32} : ∀ (n i : Nat) (a : zS), i + n = 8 → xfin X cA 0 0 (some (.int (zs (mBi_findL s key n a)))) (wd ad cA (s)) → xs X cA RX0 cX0_slotOf 5 (some .int) R_Bi_find (wd ad cA s) 0 0 40 [(4, .int (nI i)), (3, .int (zs a)), (1, .int key), (0, .ref (ad 1))] [] := by
  intro n
  induction n with
  | zero =>
    intro i a hi hX
    refine xs_iload 0 dX0_slotOf_40 rfl ?_
    refine xs_bipush (v := 8) dX0_slotOf_42 (by decide) ?_
    refine xs_icmp_ge (t := 78) dX0_slotOf_44 (by decide) (fun c44 => ?_) (fun c44 => ?_)
    · refine xs_iconst (v := zs 0) dX0_slotOf_78 rfl ?_
      exact xs_iret hX rfl dX0_slotOf_79 rfl rfl
    · exact absurd (show (8 : Int32) ≤ nI i from kn_le (m := 8) (by omega) (by omega)) c44
  | succ n ih =>
    intro i a hi hX
    refine xs_iload 0 dX0_slotOf_40 rfl ?_
    refine xs_bipush (v := 8) dX0_slotOf_42 (by decide) ?_
    refine xs_icmp_ge (t := 78) dX0_slotOf_44 (by decide) (fun c44 => ?_) (fun c44 => ?_)
    · exact absurd c44 (show ¬ (8 : Int32) ≤ nI i from kn_nle (m := 8) (by omega) (by decide))
    · refine xs_iload_n 1 dX0_slotOf_47 rfl ?_
      refine xs_sif_eq (t := 78) dX0_slotOf_48 (by decide) (fun c48 => ?_) (fun c48 => ?_)
      · refine xs_iconst (v := zs 0) dX0_slotOf_78 rfl ?_
        exact xs_iret hX rfl dX0_slotOf_79 (by simp only [mBi_findL, if_neg c44, if_pos c48]) rfl
      · refine xs_aload_n 3 dX0_slotOf_51 rfl ?_
        refine g_Bi_trees dX0_slotOf_52 ?_
        refine xs_iload_n 1 dX0_slotOf_55 rfl ?_
        refine k_Tr_keyOf dX0_slotOf_56 kw_Bi_Tr_keyOf (by decide) (Nat.le_of_ble_eq_true rfl) ?_
        refine xs_iload_n 2 dX0_slotOf_59 rfl ?_
        refine xs_icmp_ne (t := 65) dX0_slotOf_60 (by decide) (fun c60 => ?_) (fun c60 => ?_)
        · refine xs_aload_n 3 dX0_slotOf_65 rfl ?_
          refine g_Bi_next dX0_slotOf_66 ?_
          refine xs_iload_n 1 dX0_slotOf_69 rfl ?_
          refine al_S2 dX0_slotOf_70 ?_
          refine xs_istore_n (L' := [(3, _), (4, _), (1, _), (0, _)]) dX0_slotOf_71 (by decide) rfl ?_
          refine xs_iinc_n (L' := [(4, _), (3, _), (1, _), (0, _)]) 1 dX0_slotOf_72 rfl (by decide) rfl ?_
          refine xs_goto (t := 40) dX0_slotOf_75 (by decide) ?_
          refine xs_sub (L' := [(4, _), (3, _), (1, _), (0, _)]) [0, 1, 2, 3] rfl ?_
          exact ih _ _ (by omega) (by simp only [mBi_findL, if_neg c44, if_neg c48, if_neg c60] at hX; exact hX)
        · refine xs_iload_n 1 dX0_slotOf_63 rfl ?_
          exact xs_iret hX rfl dX0_slotOf_64 (by simp only [mBi_findL, if_neg c44, if_neg c48, if_pos c60]) rfl
set_option maxHeartbeats 4000000 in
set_option maxRecDepth 100000 in
theorem c_Bi_find (ad : Nat → Nat) (cA : ClassId) (s : zT) (key : Int32) (hr : rok s) : xct cA yX0_slotOf cX0_slotOf 5 (some .int) R_Bi_find [.ref (ad 1), .int key] (wd ad cA s) (some (.int (zs (mBi_find s key)))) (wd ad cA (s)) := by
  refine xct_of (own := RX0) (by decide) rfl (Nat.le_of_ble_eq_true rfl) (fun X hX => ?_)
  show xs X cA RX0 cX0_slotOf 5 (some .int) R_Bi_find (wd ad cA s) 0 0 0 [(0, .ref (ad 1)), (1, .int key)] []
  refine xs_aload_n 0 dX0_slotOf_0 rfl ?_
  refine xs_iload_n 1 dX0_slotOf_1 rfl ?_
  refine k_Bi_place dX0_slotOf_2 kw_Bi_Bi_place (by decide) (Nat.le_of_ble_eq_true rfl) hr ?_
  refine xs_istore_n (L' := [(2, _), (0, _), (1, _)]) dX0_slotOf_5 (by decide) rfl ?_
  refine xs_aload_n 1 dX0_slotOf_6 rfl ?_
  refine g_Bi_roots dX0_slotOf_7 ?_
  refine xs_iload_n 0 dX0_slotOf_10 rfl ?_
  refine al_S5 dX0_slotOf_11 ?_
  refine xs_sif_eq (t := 30) dX0_slotOf_12 (by decide) (fun c12 => ?_) (fun c12 => ?_)
  · refine xs_aload_n 1 dX0_slotOf_30 rfl ?_
    refine g_Bi_heads dX0_slotOf_31 ?_
    refine xs_iload_n 0 dX0_slotOf_34 rfl ?_
    refine al_S4 dX0_slotOf_35 ?_
    refine xs_istore_n (L' := [(3, _), (2, _), (0, _), (1, _)]) dX0_slotOf_36 (by decide) rfl ?_
    refine xs_iconst (v := nI 0) dX0_slotOf_37 rfl ?_
    refine xs_istore (L' := [(4, _), (3, _), (2, _), (0, _), (1, _)]) dX0_slotOf_38 (by decide) rfl ?_
    refine xs_sub (L' := [(4, _), (3, _), (1, _), (0, _)]) [0, 1, 4, 3] rfl ?_
    exact t_Bi_find 8 0 _ rfl (by simp only [mBi_find, if_pos c12] at hX; exact hX)
  · refine xs_aload_n 1 dX0_slotOf_15 rfl ?_
    refine g_Bi_trees dX0_slotOf_16 ?_
    refine xs_aload_n 1 dX0_slotOf_19 rfl ?_
    refine g_Bi_roots dX0_slotOf_20 ?_
    refine xs_iload_n 0 dX0_slotOf_23 rfl ?_
    refine al_S5 dX0_slotOf_24 ?_
    refine xs_iload_n 2 dX0_slotOf_25 rfl ?_
    refine k_Tr_find dX0_slotOf_26 kw_Bi_Tr_find (by decide) (Nat.le_of_ble_eq_true rfl) ?_
    exact xs_iret hX rfl dX0_slotOf_29 (by simp only [mBi_find, if_neg c12]) rfl
theorem k_Bi_find {X : xz_X} {cA : ClassId} {own : String} {ad : Nat → Nat} {cc : ByteArray} {nL : Nat} {ret : Option FieldType} {R : Room} {s : zT} {pc ix : Nat} {L : List (Nat × Value)} {st : List Value} {key : Int32} (d : decode cc pc = .ok (.invokevirtual ix, 3)) (hw : xwV own ix yX0_slotOf cX0_slotOf 5 (some .int) 1) (hR : xroom R_Bi_find 5 R) (hst : (st.map fun v => v.category).sum ≤ 8) (hr : rok s) (kk : xs X cA own cc nL ret R (wd ad cA (s)) 0 0 (pc + 3) L (.int (zs (mBi_find s key)) :: st)) : xs X cA own cc nL ret R (wd ad cA s) 0 0 pc L (.int key :: .ref (ad 1) :: st) :=
  xs_call 1 (c_Bi_find ad cA s key hr) rfl rfl d hw hR rfl rfl rfl hst ⟨Nat.zero_le _, Nat.zero_le _⟩ kk
abbrev R_Bi_from : Room := { frames := 0, cells := 0, slots := 0, locals := 0 }
set_option maxHeartbeats 4000000 in
set_option maxRecDepth 100000 in
theorem t_Bi_from {X : xz_X} {ad : Nat → Nat} {cA : ClassId} {s : zT} (hr : rok s) : ∀ (n p : Nat), n = (s.2 4 3).toNatClampNeg - p → p < 2 ^ 31 → xfin X cA 0 0 (some (.int (zs (mBi_fromL s n p)))) (wd ad cA (s)) → xs X cA RX0 cX0_firstFrom 3 (some .int) R_Bi_from (wd ad cA s) 0 0 2 [(2, .int (nI p)), (0, .ref (ad 1))] [] := by
  intro n
  induction n with
  | zero =>
    intro p hn hp hX
    refine xs_iload_n 0 dX0_firstFrom_2 rfl ?_
    refine xs_aload_n 1 dX0_firstFrom_3 rfl ?_
    refine g_Bi_room dX0_firstFrom_4 ?_
    refine xs_icmp_ge (t := 32) dX0_firstFrom_7 (by decide) (fun c7 => ?_) (fun c7 => ?_)
    · refine xs_iconst (v := zs 0) dX0_firstFrom_32 rfl ?_
      exact xs_iret hX rfl dX0_firstFrom_33 rfl rfl
    · exact absurd (cnt_le (by omega) hp) c7
  | succ n ih =>
    intro p hn hp hX
    have h4 := rok_le hr
    refine xs_iload_n 0 dX0_firstFrom_2 rfl ?_
    refine xs_aload_n 1 dX0_firstFrom_3 rfl ?_
    refine g_Bi_room dX0_firstFrom_4 ?_
    refine xs_icmp_ge (t := 32) dX0_firstFrom_7 (by decide) (fun c7 => ?_) (fun c7 => ?_)
    · exact absurd c7 (cnt_nle (by omega))
    · refine xs_aload_n 1 dX0_firstFrom_10 rfl ?_
      refine g_Bi_heads dX0_firstFrom_11 ?_
      refine xs_iload_n 0 dX0_firstFrom_14 rfl ?_
      refine aln_S4 dX0_firstFrom_15 (by omega) ?_
      refine xs_sif_eq (t := 26) dX0_firstFrom_16 (by decide) (fun c16 => ?_) (fun c16 => ?_)
      · refine xs_iinc_n (L' := [(2, _), (0, _)]) 0 dX0_firstFrom_26 rfl (by decide) rfl ?_
        refine xs_goto (t := 2) dX0_firstFrom_29 (by decide) ?_
        refine xs_sub (L' := [(2, _), (0, _)]) [0, 1] rfl ?_
        exact ih _ (by omega) (by omega) (by simp only [mBi_fromL, if_neg c7, if_pos c16] at hX; exact hX)
      · refine xs_aload_n 1 dX0_firstFrom_19 rfl ?_
        refine g_Bi_heads dX0_firstFrom_20 ?_
        refine xs_iload_n 0 dX0_firstFrom_23 rfl ?_
        refine aln_S4 dX0_firstFrom_24 (by omega) ?_
        exact xs_iret hX rfl dX0_firstFrom_25 (by simp only [mBi_fromL, if_neg c7, if_neg c16]) rfl
set_option maxHeartbeats 4000000 in
set_option maxRecDepth 100000 in
theorem c_Bi_from (ad : Nat → Nat) (cA : ClassId) (s : zT) (p : Nat) (hr : rok s) (hp : p < 2 ^ 31) : xct cA yX0_firstFrom cX0_firstFrom 3 (some .int) R_Bi_from [.ref (ad 1), .int (nI p)] (wd ad cA s) (some (.int (zs (mBi_from s p)))) (wd ad cA (s)) := by
  refine xct_of (own := RX0) (by decide) rfl (Nat.le_of_ble_eq_true rfl) (fun X hX => ?_)
  show xs X cA RX0 cX0_firstFrom 3 (some .int) R_Bi_from (wd ad cA s) 0 0 0 [(0, .ref (ad 1)), (1, .int (nI p))] []
  refine xs_iload_n 1 dX0_firstFrom_0 rfl ?_
  refine xs_istore_n (L' := [(2, _), (0, _), (1, _)]) dX0_firstFrom_1 (by decide) rfl ?_
  refine xs_sub (L' := [(2, _), (0, _)]) [0, 1] rfl ?_
  exact t_Bi_from hr _ _ rfl hp hX
theorem k_Bi_from {X : xz_X} {cA : ClassId} {own : String} {ad : Nat → Nat} {cc : ByteArray} {nL : Nat} {ret : Option FieldType} {R : Room} {s : zT} {pc ix : Nat} {L : List (Nat × Value)} {st : List Value} {p : Nat} (d : decode cc pc = .ok (.invokevirtual ix, 3)) (hw : xwV own ix yX0_firstFrom cX0_firstFrom 3 (some .int) 1) (hR : xroom R_Bi_from 3 R) (hst : (st.map fun v => v.category).sum ≤ 8) (hr : rok s) (hp : p < 2 ^ 31) (kk : xs X cA own cc nL ret R (wd ad cA (s)) 0 0 (pc + 3) L (.int (zs (mBi_from s p)) :: st)) : xs X cA own cc nL ret R (wd ad cA s) 0 0 pc L (.int (nI p) :: .ref (ad 1) :: st) :=
  xs_call 1 (c_Bi_from ad cA s p hr hp) rfl rfl d hw hR rfl rfl rfl hst ⟨Nat.zero_le _, Nat.zero_le _⟩ kk
abbrev R_Bi_behind : Room := { frames := 2, cells := 0, slots := 0, locals := 43 }
set_option maxRecDepth 100000 in
theorem kw_Bi_Bi_from : xwV RX0 62 yX0_firstFrom cX0_firstFrom 3 (some .int) 1 := ⟨⟨xt_of (List.mem_of_getElem? (i := 211) rfl) rfl, xt_of (by decide +kernel) rfl, xt_of (by decide +kernel) rfl, by decide +kernel⟩, xt_of (by decide +kernel) rfl, xt_of (by decide +kernel) rfl⟩
set_option maxHeartbeats 4000000 in
set_option maxRecDepth 100000 in
theorem c_Bi_behind (ad : Nat → Nat) (cA : ClassId) (s : zT) (a : zS) (hr : rok s) : xct cA yX0_behind cX0_behind 2 (some .int) R_Bi_behind [.ref (ad 1), .int (zs a)] (wd ad cA s) (some (.int (zs (mBi_behind s a)))) (wd ad cA (s)) := by
  refine xct_of (own := RX0) (by decide) rfl (Nat.le_of_ble_eq_true rfl) (fun X hX => ?_)
  show xs X cA RX0 cX0_behind 2 (some .int) R_Bi_behind (wd ad cA s) 0 0 0 [(0, .ref (ad 1)), (1, .int (zs a))] []
  refine xs_aload_n 0 dX0_behind_0 rfl ?_
  refine g_Bi_next dX0_behind_1 ?_
  refine xs_iload_n 1 dX0_behind_4 rfl ?_
  refine al_S2 dX0_behind_5 ?_
  refine xs_sif_eq (t := 16) dX0_behind_6 (by decide) (fun c6 => ?_) (fun c6 => ?_)
  · refine xs_aload_n 0 dX0_behind_16 rfl ?_
    refine xs_aload_n 0 dX0_behind_17 rfl ?_
    refine xs_aload_n 0 dX0_behind_18 rfl ?_
    refine g_Bi_trees dX0_behind_19 ?_
    refine xs_iload_n 1 dX0_behind_22 rfl ?_
    refine k_Tr_keyOf dX0_behind_23 kw_Bi_Tr_keyOf (by decide) (Nat.le_of_ble_eq_true rfl) ?_
    refine k_Bi_place dX0_behind_26 kw_Bi_Bi_place (by decide) (Nat.le_of_ble_eq_true rfl) hr ?_
    refine xs_iconst (v := 1) dX0_behind_29 (by decide) ?_
    refine xs_iadd dX0_behind_30 ?_
    refine xs_top (zp_succ _) ?_
    refine k_Bi_from dX0_behind_31 kw_Bi_Bi_from (by decide) (Nat.le_of_ble_eq_true rfl) hr (Nat.lt_trans (Nat.succ_lt_succ (Fin.isLt _)) (by decide)) ?_
    exact xs_iret hX rfl dX0_behind_34 (by simp only [mBi_behind, if_pos c6]) rfl
  · refine xs_aload_n 0 dX0_behind_9 rfl ?_
    refine g_Bi_next dX0_behind_10 ?_
    refine xs_iload_n 1 dX0_behind_13 rfl ?_
    refine al_S2 dX0_behind_14 ?_
    exact xs_iret hX rfl dX0_behind_15 (by simp only [mBi_behind, if_neg c6]) rfl
theorem k_Bi_behind {X : xz_X} {cA : ClassId} {own : String} {ad : Nat → Nat} {cc : ByteArray} {nL : Nat} {ret : Option FieldType} {R : Room} {s : zT} {pc ix : Nat} {L : List (Nat × Value)} {st : List Value} {a : zS} (d : decode cc pc = .ok (.invokevirtual ix, 3)) (hw : xwV own ix yX0_behind cX0_behind 2 (some .int) 1) (hR : xroom R_Bi_behind 2 R) (hst : (st.map fun v => v.category).sum ≤ 8) (hr : rok s) (kk : xs X cA own cc nL ret R (wd ad cA (s)) 0 0 (pc + 3) L (.int (zs (mBi_behind s a)) :: st)) : xs X cA own cc nL ret R (wd ad cA s) 0 0 pc L (.int (zs a) :: .ref (ad 1) :: st) :=
  xs_call 1 (c_Bi_behind ad cA s a hr) rfl rfl d hw hR rfl rfl rfl hst ⟨Nat.zero_le _, Nat.zero_le _⟩ kk
abbrev R_Bi_add : Room := { frames := 4, cells := 0, slots := 0, locals := 95 }
set_option maxRecDepth 100000 in
theorem kw_Bi_Bi_append : xwV RX0 65 yX0_append cX0_append 5 none 2 := ⟨⟨xt_of (List.mem_of_getElem? (i := 435) rfl) rfl, xt_of (by decide +kernel) rfl, xt_of (by decide +kernel) rfl, by decide +kernel⟩, xt_of (by decide +kernel) rfl, xt_of (by decide +kernel) rfl⟩
set_option maxRecDepth 100000 in
theorem kw_Bi_Tr_with : xwV RX0 68 yX2_with cX2_with 4 (some .int) 2 := ⟨⟨xt_of (List.mem_of_getElem? (i := 439) rfl) rfl, xt_of (by decide +kernel) rfl, xt_of (by decide +kernel) rfl, by decide +kernel⟩, xt_of (by decide +kernel) rfl, xt_of (by decide +kernel) rfl⟩
set_option maxRecDepth 100000 in
theorem kw_Bi_Bi_long : xwV RX0 71 yX0_isLong cX0_isLong 4 (some .boolean) 1 := ⟨⟨xt_of (List.mem_of_getElem? (i := 463) rfl) rfl, xt_of (by decide +kernel) rfl, xt_of (by decide +kernel) rfl, by decide +kernel⟩, xt_of (by decide +kernel) rfl, xt_of (by decide +kernel) rfl⟩
set_option maxHeartbeats 4000000 in
set_option maxRecDepth 100000 in
theorem t_Bi_add {X : xz_X} {ad : Nat → Nat} {cA : ClassId} {p : zP} : ∀ (n i : Nat) (a : zS) (s : zT), i + n = 9 → xfin X cA 0 0 none (wd ad cA (mBi_addL p n a s)) → xs X cA RX0 cX0_add 5 none R_Bi_add (wd ad cA s) 0 0 69 [(4, .int (nI i)), (3, .int (zs a)), (2, .int (zp p)), (0, .ref (ad 1))] [] := by
  intro n
  induction n with
  | zero =>
    intro i a s hi hX
    refine xs_iload 0 dX0_add_69 rfl ?_
    refine xs_bipush (v := 8) dX0_add_71 (by decide) ?_
    refine xs_icmp_gt (t := 109) dX0_add_73 (by decide) (fun c73 => ?_) (fun c73 => ?_)
    · exact xs_vret hX rfl dX0_add_109 rfl
    · exact absurd (show (8 : Int32) < nI i from (nI_ltI (a := 8) (by decide) (by omega)).mpr (by omega)) c73
  | succ n ih =>
    intro i a s hi hX
    refine xs_iload 0 dX0_add_69 rfl ?_
    refine xs_bipush (v := 8) dX0_add_71 (by decide) ?_
    refine xs_icmp_gt (t := 109) dX0_add_73 (by decide) (fun c73 => ?_) (fun c73 => ?_)
    · exact absurd (show nI 8 < nI i from c73) (fun q => absurd ((nI_ltI (a := 8) (by decide) (by omega)).mp q) (by omega))
    · refine xs_aload_n 3 dX0_add_76 rfl ?_
      refine g_Bi_roots dX0_add_77 ?_
      refine xs_iload_n 2 dX0_add_80 rfl ?_
      refine xs_aload_n 3 dX0_add_81 rfl ?_
      refine g_Bi_trees dX0_add_82 ?_
      refine xs_aload_n 3 dX0_add_85 rfl ?_
      refine g_Bi_roots dX0_add_86 ?_
      refine xs_iload_n 2 dX0_add_89 rfl ?_
      refine al_S5 dX0_add_90 ?_
      refine xs_iload_n 1 dX0_add_91 rfl ?_
      refine k_Tr_with dX0_add_92 kw_Bi_Tr_with (by decide) (Nat.le_of_ble_eq_true rfl) ?_
      refine as_S5 dX0_add_95 ?_
      refine xs_aload_n 3 dX0_add_96 rfl ?_
      refine g_Bi_next dX0_add_97 ?_
      refine xs_iload_n 1 dX0_add_100 rfl ?_
      refine al_S2 dX0_add_101 ?_
      refine xs_istore_n (L' := [(3, _), (4, _), (2, _), (0, _)]) dX0_add_102 (by decide) rfl ?_
      refine xs_iinc_n (L' := [(4, _), (3, _), (2, _), (0, _)]) 1 dX0_add_103 rfl (by decide) rfl ?_
      refine xs_goto (t := 69) dX0_add_106 (by decide) ?_
      refine xs_sub (L' := [(4, _), (3, _), (2, _), (0, _)]) [0, 1, 2, 3] rfl ?_
      exact ih _ _ _ (by omega) (by simp only [mBi_addL, if_neg c73] at hX; exact hX)
set_option maxHeartbeats 4000000 in
set_option maxRecDepth 100000 in
theorem c_Bi_add (ad : Nat → Nat) (cA : ClassId) (s : zT) (a : zS) (hr : rok s) : xct cA yX0_add cX0_add 5 none R_Bi_add [.ref (ad 1), .int (zs a)] (wd ad cA s) none (wd ad cA (mBi_add s a)) := by
  refine xct_of (own := RX0) (by decide) rfl (Nat.le_of_ble_eq_true rfl) (fun X hX => ?_)
  show xs X cA RX0 cX0_add 5 none R_Bi_add (wd ad cA s) 0 0 0 [(0, .ref (ad 1)), (1, .int (zs a))] []
  refine xs_aload_n 0 dX0_add_0 rfl ?_
  refine xs_aload_n 0 dX0_add_1 rfl ?_
  refine g_Bi_trees dX0_add_2 ?_
  refine xs_iload_n 1 dX0_add_5 rfl ?_
  refine k_Tr_keyOf dX0_add_6 kw_Bi_Tr_keyOf (by decide) (Nat.le_of_ble_eq_true rfl) ?_
  refine k_Bi_place dX0_add_9 kw_Bi_Bi_place (by decide) (Nat.le_of_ble_eq_true rfl) hr ?_
  refine xs_istore_n (L' := [(2, _), (0, _), (1, _)]) dX0_add_12 (by decide) rfl ?_
  refine xs_aload_n 1 dX0_add_13 rfl ?_
  refine xs_iload_n 0 dX0_add_14 rfl ?_
  refine xs_iload_n 2 dX0_add_15 rfl ?_
  refine k_Bi_append dX0_add_16 kw_Bi_Bi_append (by decide) (Nat.le_of_ble_eq_true rfl) ?_
  refine xs_aload_n 1 dX0_add_19 rfl ?_
  refine g_Bi_roots dX0_add_20 ?_
  refine xs_iload_n 0 dX0_add_23 rfl ?_
  refine al_S5 dX0_add_24 ?_
  refine xs_sif_eq (t := 51) dX0_add_25 (by decide) (fun c25 => ?_) (fun c25 => ?_)
  · refine xs_aload_n 1 dX0_add_51 rfl ?_
    refine xs_iload_n 0 dX0_add_52 rfl ?_
    refine k_Bi_long dX0_add_53 kw_Bi_Bi_long (by decide) (Nat.le_of_ble_eq_true rfl) ?_
    refine xs_bif_eq (t := 109) dX0_add_56 (by decide) (fun c56 => ?_) (fun c56 => ?_)
    · exact xs_vret hX rfl dX0_add_109 (by simp only [mBi_add, if_pos c25, c56, ↓reduceIte, Bool.false_eq_true])
    · refine xs_aload_n 1 dX0_add_59 rfl ?_
      refine g_Bi_heads dX0_add_60 ?_
      refine xs_iload_n 0 dX0_add_63 rfl ?_
      refine al_S4 dX0_add_64 ?_
      refine xs_istore_n (L' := [(3, _), (2, _), (0, _), (1, _)]) dX0_add_65 (by decide) rfl ?_
      refine xs_iconst (v := nI 0) dX0_add_66 rfl ?_
      refine xs_istore (L' := [(4, _), (3, _), (2, _), (0, _), (1, _)]) dX0_add_67 (by decide) rfl ?_
      refine xs_sub (L' := [(4, _), (3, _), (2, _), (0, _)]) [0, 1, 2, 3] rfl ?_
      exact t_Bi_add 9 0 _ _ rfl (by simp only [mBi_add, if_pos c25, c56, ↓reduceIte, Bool.false_eq_true] at hX; exact hX)
  · refine xs_aload_n 1 dX0_add_28 rfl ?_
    refine g_Bi_roots dX0_add_29 ?_
    refine xs_iload_n 0 dX0_add_32 rfl ?_
    refine xs_aload_n 1 dX0_add_33 rfl ?_
    refine g_Bi_trees dX0_add_34 ?_
    refine xs_aload_n 1 dX0_add_37 rfl ?_
    refine g_Bi_roots dX0_add_38 ?_
    refine xs_iload_n 0 dX0_add_41 rfl ?_
    refine al_S5 dX0_add_42 ?_
    refine xs_iload_n 2 dX0_add_43 rfl ?_
    refine k_Tr_with dX0_add_44 kw_Bi_Tr_with (by decide) (Nat.le_of_ble_eq_true rfl) ?_
    refine as_S5 dX0_add_47 ?_
    refine xs_goto (t := 109) dX0_add_48 (by decide) ?_
    exact xs_vret hX rfl dX0_add_109 (by simp only [mBi_add, if_neg c25])
theorem k_Bi_add {X : xz_X} {cA : ClassId} {own : String} {ad : Nat → Nat} {cc : ByteArray} {nL : Nat} {ret : Option FieldType} {R : Room} {s : zT} {pc ix : Nat} {L : List (Nat × Value)} {st : List Value} {a : zS} (d : decode cc pc = .ok (.invokevirtual ix, 3)) (hw : xwV own ix yX0_add cX0_add 5 none 1) (hR : xroom R_Bi_add 5 R) (hst : (st.map fun v => v.category).sum ≤ 8) (hr : rok s) (kk : xs X cA own cc nL ret R (wd ad cA (mBi_add s a)) 0 0 (pc + 3) L (st)) : xs X cA own cc nL ret R (wd ad cA s) 0 0 pc L (.int (zs a) :: .ref (ad 1) :: st) :=
  xs_call 1 (c_Bi_add ad cA s a hr) rfl rfl d hw hR rfl rfl rfl hst ⟨Nat.zero_le _, Nat.zero_le _⟩ kk
abbrev R_Bi_remove : Room := { frames := 4, cells := 0, slots := 0, locals := 97 }
set_option maxRecDepth 100000 in
theorem kw_Bi_Bi_unlink : xwV RX0 75 yX0_unlink cX0_unlink 6 none 2 := ⟨⟨xt_of (List.mem_of_getElem? (i := 480) rfl) rfl, xt_of (by decide +kernel) rfl, xt_of (by decide +kernel) rfl, by decide +kernel⟩, xt_of (by decide +kernel) rfl, xt_of (by decide +kernel) rfl⟩
set_option maxRecDepth 100000 in
theorem kw_Bi_Tr_without : xwV RX0 78 yX2_without cX2_without 6 (some .int) 2 := ⟨⟨xt_of (List.mem_of_getElem? (i := 484) rfl) rfl, xt_of (by decide +kernel) rfl, xt_of (by decide +kernel) rfl, by decide +kernel⟩, xt_of (by decide +kernel) rfl, xt_of (by decide +kernel) rfl⟩
set_option maxRecDepth 100000 in
theorem kw_Bi_Tr_heightOf : xwV RX0 81 yX2_heightOf cX2_heightOf 2 (some .int) 1 := ⟨⟨xt_of (List.mem_of_getElem? (i := 265) rfl) rfl, xt_of (by decide +kernel) rfl, xt_of (by decide +kernel) rfl, by decide +kernel⟩, xt_of (by decide +kernel) rfl, xt_of (by decide +kernel) rfl⟩
set_option maxHeartbeats 4000000 in
set_option maxRecDepth 100000 in
theorem c_Bi_remove (ad : Nat → Nat) (cA : ClassId) (s : zT) (a : zS) (hr : rok s) : xct cA yX0_remove cX0_remove 4 none R_Bi_remove [.ref (ad 1), .int (zs a)] (wd ad cA s) none (wd ad cA (mBi_remove s a)) := by
  refine xct_of (own := RX0) (by decide) rfl (Nat.le_of_ble_eq_true rfl) (fun X hX => ?_)
  show xs X cA RX0 cX0_remove 4 none R_Bi_remove (wd ad cA s) 0 0 0 [(0, .ref (ad 1)), (1, .int (zs a))] []
  refine xs_aload_n 0 dX0_remove_0 rfl ?_
  refine xs_aload_n 0 dX0_remove_1 rfl ?_
  refine g_Bi_trees dX0_remove_2 ?_
  refine xs_iload_n 1 dX0_remove_5 rfl ?_
  refine k_Tr_keyOf dX0_remove_6 kw_Bi_Tr_keyOf (by decide) (Nat.le_of_ble_eq_true rfl) ?_
  refine k_Bi_place dX0_remove_9 kw_Bi_Bi_place (by decide) (Nat.le_of_ble_eq_true rfl) hr ?_
  refine xs_istore_n (L' := [(2, _), (0, _), (1, _)]) dX0_remove_12 (by decide) rfl ?_
  refine xs_aload_n 1 dX0_remove_13 rfl ?_
  refine xs_iload_n 0 dX0_remove_14 rfl ?_
  refine xs_iload_n 2 dX0_remove_15 rfl ?_
  refine k_Bi_unlink dX0_remove_16 kw_Bi_Bi_unlink (by decide) (Nat.le_of_ble_eq_true rfl) ?_
  refine xs_aload_n 1 dX0_remove_19 rfl ?_
  refine g_Bi_roots dX0_remove_20 ?_
  refine xs_iload_n 0 dX0_remove_23 rfl ?_
  refine al_S5 dX0_remove_24 ?_
  refine xs_sif_eq (t := 66) dX0_remove_25 (by decide) (fun c25 => ?_) (fun c25 => ?_)
  · exact xs_vret hX rfl dX0_remove_66 (by simp only [mBi_remove, if_pos c25])
  · refine xs_aload_n 1 dX0_remove_28 rfl ?_
    refine g_Bi_trees dX0_remove_29 ?_
    refine xs_aload_n 1 dX0_remove_32 rfl ?_
    refine g_Bi_roots dX0_remove_33 ?_
    refine xs_iload_n 0 dX0_remove_36 rfl ?_
    refine al_S5 dX0_remove_37 ?_
    refine xs_iload_n 2 dX0_remove_38 rfl ?_
    refine k_Tr_without dX0_remove_39 kw_Bi_Tr_without (by decide) (Nat.le_of_ble_eq_true rfl) ?_
    refine xs_istore_n (L' := [(3, _), (2, _), (0, _), (1, _)]) dX0_remove_42 (by decide) rfl ?_
    refine xs_aload_n 2 dX0_remove_43 rfl ?_
    refine g_Bi_roots dX0_remove_44 ?_
    refine xs_iload_n 1 dX0_remove_47 rfl ?_
    refine xs_aload_n 2 dX0_remove_48 rfl ?_
    refine g_Bi_trees dX0_remove_49 ?_
    refine xs_iload_n 0 dX0_remove_52 rfl ?_
    refine k_Tr_heightOf dX0_remove_53 kw_Bi_Tr_heightOf (by decide) (Nat.le_of_ble_eq_true rfl) ?_
    refine xs_iconst (v := 3) dX0_remove_56 (by decide) ?_
    refine xs_icmp_ge (t := 64) dX0_remove_57 (by decide) (fun c57 => ?_) (fun c57 => ?_)
    · refine xs_iload_n 0 dX0_remove_64 rfl ?_
      refine as_S5 dX0_remove_65 ?_
      exact xs_vret hX rfl dX0_remove_66 (by simp only [mBi_remove, if_neg c25, if_pos c57])
    · refine xs_iconst (v := zs 0) dX0_remove_60 rfl ?_
      refine xs_goto (t := 65) dX0_remove_61 (by decide) ?_
      refine as_S5 dX0_remove_65 ?_
      exact xs_vret hX rfl dX0_remove_66 (by simp only [mBi_remove, if_neg c25, if_neg c57])
theorem k_Bi_remove {X : xz_X} {cA : ClassId} {own : String} {ad : Nat → Nat} {cc : ByteArray} {nL : Nat} {ret : Option FieldType} {R : Room} {s : zT} {pc ix : Nat} {L : List (Nat × Value)} {st : List Value} {a : zS} (d : decode cc pc = .ok (.invokevirtual ix, 3)) (hw : xwV own ix yX0_remove cX0_remove 4 none 1) (hR : xroom R_Bi_remove 4 R) (hst : (st.map fun v => v.category).sum ≤ 8) (hr : rok s) (kk : xs X cA own cc nL ret R (wd ad cA (mBi_remove s a)) 0 0 (pc + 3) L (st)) : xs X cA own cc nL ret R (wd ad cA s) 0 0 pc L (.int (zs a) :: .ref (ad 1) :: st) :=
  xs_call 1 (c_Bi_remove ad cA s a hr) rfl rfl d hw hR rfl rfl rfl hst ⟨Nat.zero_le _, Nat.zero_le _⟩ kk
abbrev R_Bi_drain : Room := { frames := 1, cells := 0, slots := 0, locals := 23 }
set_option maxHeartbeats 4000000 in
set_option maxRecDepth 100000 in
theorem c_Bi_drain (ad : Nat → Nat) (cA : ClassId) (s : zT) : xct cA yX0_drain cX0_drain 1 none R_Bi_drain [.ref (ad 1)] (wd ad cA s) none (wd ad cA (mBi_drain s)) := by
  refine xct_of (own := RX0) (by decide) rfl (Nat.le_of_ble_eq_true rfl) (fun X hX => ?_)
  show xs X cA RX0 cX0_drain 1 none R_Bi_drain (wd ad cA s) 0 0 0 [(0, .ref (ad 1))] []
  refine xs_aload_n 0 dX0_drain_0 rfl ?_
  refine g_Bi_heads dX0_drain_1 ?_
  refine xs_iconst (v := 0) dX0_drain_4 (by decide) ?_
  refine k_fill_S4 dX0_drain_5 kw_fill (by decide) (Nat.le_of_ble_eq_true rfl) ?_
  refine xs_aload_n 0 dX0_drain_8 rfl ?_
  refine g_Bi_roots dX0_drain_9 ?_
  refine xs_iconst (v := 0) dX0_drain_12 (by decide) ?_
  refine k_fill_S5 dX0_drain_13 kw_fill (by decide) (Nat.le_of_ble_eq_true rfl) ?_
  exact xs_vret hX rfl dX0_drain_16 rfl
theorem k_Bi_drain {X : xz_X} {cA : ClassId} {own : String} {ad : Nat → Nat} {cc : ByteArray} {nL : Nat} {ret : Option FieldType} {R : Room} {s : zT} {pc ix : Nat} {L : List (Nat × Value)} {st : List Value} (d : decode cc pc = .ok (.invokevirtual ix, 3)) (hw : xwV own ix yX0_drain cX0_drain 1 none 0) (hR : xroom R_Bi_drain 1 R) (hst : (st.map fun v => v.category).sum ≤ 8) (kk : xs X cA own cc nL ret R (wd ad cA (mBi_drain s)) 0 0 (pc + 3) L (st)) : xs X cA own cc nL ret R (wd ad cA s) 0 0 pc L (.ref (ad 1) :: st) :=
  xs_call 1 (c_Bi_drain ad cA s) rfl rfl d hw hR rfl rfl rfl hst ⟨Nat.zero_le _, Nat.zero_le _⟩ kk
abbrev R_Bi_begin : Room := { frames := 2, cells := 0, slots := 0, locals := 43 }
set_option maxRecDepth 100000 in
theorem kw_Bi_Bi_drain : xwV RX0 38 yX0_drain cX0_drain 1 none 0 := ⟨⟨xt_of (List.mem_of_getElem? (i := 196) rfl) rfl, xt_of (by decide +kernel) rfl, xt_of (by decide +kernel) rfl, by decide +kernel⟩, xt_of (by decide +kernel) rfl, xt_of (by decide +kernel) rfl⟩
set_option maxHeartbeats 4000000 in
set_option maxRecDepth 100000 in
theorem c_Bi_begin (ad : Nat → Nat) (cA : ClassId) (s : zT) (f : Int32) : xct cA yX0_begin cX0_begin 2 none R_Bi_begin [.ref (ad 1), .int f] (wd ad cA s) none (wd ad cA (mBi_begin s f)) := by
  refine xct_of (own := RX0) (by decide) rfl (Nat.le_of_ble_eq_true rfl) (fun X hX => ?_)
  show xs X cA RX0 cX0_begin 2 none R_Bi_begin (wd ad cA s) 0 0 0 [(0, .ref (ad 1)), (1, .int f)] []
  refine xs_aload_n 0 dX0_begin_0 rfl ?_
  refine k_Bi_drain dX0_begin_1 kw_Bi_Bi_drain (by decide) (Nat.le_of_ble_eq_true rfl) ?_
  refine xs_aload_n 0 dX0_begin_4 rfl ?_
  refine xs_bipush (v := 16) dX0_begin_5 (by decide) ?_
  refine p_Bi_room dX0_begin_7 ?_
  refine xs_aload_n 0 dX0_begin_10 rfl ?_
  refine xs_iload_n 1 dX0_begin_11 rfl ?_
  refine p_Bi_function dX0_begin_12 ?_
  exact xs_vret hX rfl dX0_begin_15 rfl
theorem k_Bi_begin {X : xz_X} {cA : ClassId} {own : String} {ad : Nat → Nat} {cc : ByteArray} {nL : Nat} {ret : Option FieldType} {R : Room} {s : zT} {pc ix : Nat} {L : List (Nat × Value)} {st : List Value} {f : Int32} (d : decode cc pc = .ok (.invokevirtual ix, 3)) (hw : xwV own ix yX0_begin cX0_begin 2 none 1) (hR : xroom R_Bi_begin 2 R) (hst : (st.map fun v => v.category).sum ≤ 8) (kk : xs X cA own cc nL ret R (wd ad cA (mBi_begin s f)) 0 0 (pc + 3) L (st)) : xs X cA own cc nL ret R (wd ad cA s) 0 0 pc L (.int f :: .ref (ad 1) :: st) :=
  xs_call 1 (c_Bi_begin ad cA s f) rfl rfl d hw hR rfl rfl rfl hst ⟨Nat.zero_le _, Nat.zero_le _⟩ kk
abbrev R_Bi_stretch : Room := { frames := 2, cells := 0, slots := 0, locals := 43 }
set_option maxHeartbeats 4000000 in
set_option maxRecDepth 100000 in
theorem c_Bi_stretch (ad : Nat → Nat) (cA : ClassId) (s : zT) : xct cA yX0_stretch cX0_stretch 1 none R_Bi_stretch [.ref (ad 1)] (wd ad cA s) none (wd ad cA (mBi_stretch s)) := by
  refine xct_of (own := RX0) (by decide) rfl (Nat.le_of_ble_eq_true rfl) (fun X hX => ?_)
  show xs X cA RX0 cX0_stretch 1 none R_Bi_stretch (wd ad cA s) 0 0 0 [(0, .ref (ad 1))] []
  refine xs_aload_n 0 dX0_stretch_0 rfl ?_
  refine k_Bi_drain dX0_stretch_1 kw_Bi_Bi_drain (by decide) (Nat.le_of_ble_eq_true rfl) ?_
  refine xs_aload_n 0 dX0_stretch_4 rfl ?_
  refine xs_aload_n 0 dX0_stretch_5 rfl ?_
  refine g_Bi_room dX0_stretch_6 ?_
  refine xs_iconst (v := 2) dX0_stretch_9 (by decide) ?_
  refine xs_imul dX0_stretch_10 ?_
  refine p_Bi_room dX0_stretch_11 ?_
  exact xs_vret hX rfl dX0_stretch_14 rfl
theorem k_Bi_stretch {X : xz_X} {cA : ClassId} {own : String} {ad : Nat → Nat} {cc : ByteArray} {nL : Nat} {ret : Option FieldType} {R : Room} {s : zT} {pc ix : Nat} {L : List (Nat × Value)} {st : List Value} (d : decode cc pc = .ok (.invokevirtual ix, 3)) (hw : xwV own ix yX0_stretch cX0_stretch 1 none 0) (hR : xroom R_Bi_stretch 1 R) (hst : (st.map fun v => v.category).sum ≤ 8) (kk : xs X cA own cc nL ret R (wd ad cA (mBi_stretch s)) 0 0 (pc + 3) L (st)) : xs X cA own cc nL ret R (wd ad cA s) 0 0 pc L (.ref (ad 1) :: st) :=
  xs_call 1 (c_Bi_stretch ad cA s) rfl rfl d hw hR rfl rfl rfl hst ⟨Nat.zero_le _, Nat.zero_le _⟩ kk
abbrev R_Bi_tf : Room := { frames := 2, cells := 0, slots := 0, locals := 48 }
set_option maxRecDepth 100000 in
theorem kw_Bi_Bi_len : xwV RX0 87 yX0_lengthOf cX0_lengthOf 4 (some .int) 1 := ⟨⟨xt_of (List.mem_of_getElem? (i := 261) rfl) rfl, xt_of (by decide +kernel) rfl, xt_of (by decide +kernel) rfl, by decide +kernel⟩, xt_of (by decide +kernel) rfl, xt_of (by decide +kernel) rfl⟩
set_option maxRecDepth 100000 in
theorem kw_Bi_Tr_fa : xwV RX0 98 yX2_faultsAt cX2_faultsAt 6 (some .int) 1 := ⟨⟨xt_of (List.mem_of_getElem? (i := 269) rfl) rfl, xt_of (by decide +kernel) rfl, xt_of (by decide +kernel) rfl, by decide +kernel⟩, xt_of (by decide +kernel) rfl, xt_of (by decide +kernel) rfl⟩
set_option maxRecDepth 100000 in
theorem kw_Bi_Tr_br : xwV RX0 99 yX2_branchesOf cX2_branchesOf 2 (some .int) 1 := ⟨⟨xt_of (List.mem_of_getElem? (i := 277) rfl) rfl, xt_of (by decide +kernel) rfl, xt_of (by decide +kernel) rfl, by decide +kernel⟩, xt_of (by decide +kernel) rfl, xt_of (by decide +kernel) rfl⟩
set_option maxHeartbeats 4000000 in
set_option maxRecDepth 100000 in
theorem t_Bi_tf {X : xz_X} {ad : Nat → Nat} {cA : ClassId} {s : zT} {len : Int32} : ∀ (n i : Nat) (x b : Int32) (a : zS), i + n = len.toNatClampNeg → xfin X cA 0 0 (some (.int (mBi_tfL s len n x b a))) (wd ad cA (s)) → xs X cA RX0 cX0_treeFaultsAt 7 (some .int) R_Bi_tf (wd ad cA s) 0 0 64 [(6, .int (nI i)), (5, .int (zs a)), (4, .int b), (3, .int x), (2, .int len), (0, .ref (ad 1))] [] := by
  intro n
  induction n with
  | zero =>
    intro i x b a hi hX
    refine xs_iload 0 dX0_treeFaultsAt_64 rfl ?_
    refine xs_iload_n 4 dX0_treeFaultsAt_66 rfl ?_
    refine xs_icmp_ge (t := 111) dX0_treeFaultsAt_67 (by decide) (fun c67 => ?_) (fun c67 => ?_)
    · refine xs_iload 2 dX0_treeFaultsAt_111 rfl ?_
      refine xs_iload_n 4 dX0_treeFaultsAt_113 rfl ?_
      refine xs_iconst (v := 1) dX0_treeFaultsAt_114 (by decide) ?_
      refine xs_isub dX0_treeFaultsAt_115 ?_
      refine xs_icmp_ne (t := 123) dX0_treeFaultsAt_116 (by decide) (fun c116 => ?_) (fun c116 => ?_)
      · refine xs_iload_n 3 dX0_treeFaultsAt_123 rfl ?_
        refine xs_iconst (v := 1) dX0_treeFaultsAt_124 (by decide) ?_
        refine xs_iadd dX0_treeFaultsAt_125 ?_
        exact xs_iret hX rfl dX0_treeFaultsAt_126 (by simp only [mBi_tfL, if_pos c67, if_neg c116]) rfl
      · refine xs_iload_n 3 dX0_treeFaultsAt_119 rfl ?_
        refine xs_goto (t := 126) dX0_treeFaultsAt_120 (by decide) ?_
        exact xs_iret hX rfl dX0_treeFaultsAt_126 (by simp only [mBi_tfL, if_pos c67, if_pos c116]) rfl
    · exact absurd (cnt_le (by omega) (by have := cnt_lt31 len; omega)) c67
  | succ n ih =>
    intro i x b a hi hX
    refine xs_iload 0 dX0_treeFaultsAt_64 rfl ?_
    refine xs_iload_n 4 dX0_treeFaultsAt_66 rfl ?_
    refine xs_icmp_ge (t := 111) dX0_treeFaultsAt_67 (by decide) (fun c67 => ?_) (fun c67 => ?_)
    · exact absurd c67 (cnt_nle (by omega))
    · refine xs_iload_n 3 dX0_treeFaultsAt_70 rfl ?_
      refine xs_aload_n 5 dX0_treeFaultsAt_71 rfl ?_
      refine g_Bi_trees dX0_treeFaultsAt_72 ?_
      refine xs_iload 1 dX0_treeFaultsAt_75 rfl ?_
      refine k_Tr_fa dX0_treeFaultsAt_77 kw_Bi_Tr_fa (by decide) (Nat.le_of_ble_eq_true rfl) ?_
      refine xs_iadd dX0_treeFaultsAt_80 ?_
      refine xs_istore_n (L' := [(3, _), (6, _), (5, _), (4, _), (2, _), (0, _)]) dX0_treeFaultsAt_81 (by decide) rfl ?_
      refine xs_iload 3 dX0_treeFaultsAt_82 rfl ?_
      refine xs_aload_n 5 dX0_treeFaultsAt_84 rfl ?_
      refine g_Bi_trees dX0_treeFaultsAt_85 ?_
      refine xs_iload 2 dX0_treeFaultsAt_88 rfl ?_
      refine k_Tr_br dX0_treeFaultsAt_90 kw_Bi_Tr_br (by decide) (Nat.le_of_ble_eq_true rfl) ?_
      refine xs_iadd dX0_treeFaultsAt_93 ?_
      refine xs_istore (L' := [(4, _), (3, _), (6, _), (5, _), (2, _), (0, _)]) dX0_treeFaultsAt_94 (by decide) rfl ?_
      refine xs_aload_n 5 dX0_treeFaultsAt_96 rfl ?_
      refine g_Bi_next dX0_treeFaultsAt_97 ?_
      refine xs_iload 3 dX0_treeFaultsAt_100 rfl ?_
      refine al_S2 dX0_treeFaultsAt_102 ?_
      refine xs_istore (L' := [(5, _), (4, _), (3, _), (6, _), (2, _), (0, _)]) dX0_treeFaultsAt_103 (by decide) rfl ?_
      refine xs_iinc_n (L' := [(6, _), (5, _), (4, _), (3, _), (2, _), (0, _)]) 3 dX0_treeFaultsAt_105 rfl (by decide) rfl ?_
      refine xs_goto (t := 64) dX0_treeFaultsAt_108 (by decide) ?_
      refine xs_sub (L' := [(6, _), (5, _), (4, _), (3, _), (2, _), (0, _)]) [0, 1, 2, 3, 4, 5] rfl ?_
      exact ih _ _ _ _ (by omega) hX
set_option maxHeartbeats 4000000 in
set_option maxRecDepth 100000 in
theorem c_Bi_tf (ad : Nat → Nat) (cA : ClassId) (s : zT) (p : zP) : xct cA yX0_treeFaultsAt cX0_treeFaultsAt 7 (some .int) R_Bi_tf [.ref (ad 1), .int (zp p)] (wd ad cA s) (some (.int (mBi_tf s p))) (wd ad cA (s)) := by
  refine xct_of (own := RX0) (by decide) rfl (Nat.le_of_ble_eq_true rfl) (fun X hX => ?_)
  show xs X cA RX0 cX0_treeFaultsAt 7 (some .int) R_Bi_tf (wd ad cA s) 0 0 0 [(0, .ref (ad 1)), (1, .int (zp p))] []
  refine xs_aload_n 0 dX0_treeFaultsAt_0 rfl ?_
  refine xs_iload_n 1 dX0_treeFaultsAt_1 rfl ?_
  refine k_Bi_len dX0_treeFaultsAt_2 kw_Bi_Bi_len (by decide) (Nat.le_of_ble_eq_true rfl) ?_
  refine xs_istore_n (L' := [(2, _), (0, _), (1, _)]) dX0_treeFaultsAt_5 (by decide) rfl ?_
  refine xs_aload_n 1 dX0_treeFaultsAt_6 rfl ?_
  refine g_Bi_roots dX0_treeFaultsAt_7 ?_
  refine xs_iload_n 2 dX0_treeFaultsAt_10 rfl ?_
  refine al_S5 dX0_treeFaultsAt_11 ?_
  refine xs_sif_ne (t := 27) dX0_treeFaultsAt_12 (by decide) (fun c12 => ?_) (fun c12 => ?_)
  · refine xs_aload_n 1 dX0_treeFaultsAt_27 rfl ?_
    refine g_Bi_trees dX0_treeFaultsAt_28 ?_
    refine xs_aload_n 1 dX0_treeFaultsAt_31 rfl ?_
    refine g_Bi_roots dX0_treeFaultsAt_32 ?_
    refine xs_iload_n 2 dX0_treeFaultsAt_35 rfl ?_
    refine al_S5 dX0_treeFaultsAt_36 ?_
    refine k_Tr_heightOf dX0_treeFaultsAt_37 kw_Bi_Tr_heightOf (by decide) (Nat.le_of_ble_eq_true rfl) ?_
    refine xs_iconst (v := 3) dX0_treeFaultsAt_40 (by decide) ?_
    refine xs_icmp_ge (t := 48) dX0_treeFaultsAt_41 (by decide) (fun c41 => ?_) (fun c41 => ?_)
    · refine xs_iconst (v := 0) dX0_treeFaultsAt_48 (by decide) ?_
      refine xs_istore_n (L' := [(3, _), (2, _), (0, _), (1, _)]) dX0_treeFaultsAt_49 (by decide) rfl ?_
      refine xs_iconst (v := 0) dX0_treeFaultsAt_50 (by decide) ?_
      refine xs_istore (L' := [(4, _), (3, _), (2, _), (0, _), (1, _)]) dX0_treeFaultsAt_51 (by decide) rfl ?_
      refine xs_aload_n 3 dX0_treeFaultsAt_53 rfl ?_
      refine g_Bi_heads dX0_treeFaultsAt_54 ?_
      refine xs_iload_n 4 dX0_treeFaultsAt_57 rfl ?_
      refine al_S4 dX0_treeFaultsAt_58 ?_
      refine xs_istore (L' := [(5, _), (4, _), (3, _), (2, _), (0, _), (1, _)]) dX0_treeFaultsAt_59 (by decide) rfl ?_
      refine xs_iconst (v := nI 0) dX0_treeFaultsAt_61 rfl ?_
      refine xs_istore (L' := [(6, _), (5, _), (4, _), (3, _), (2, _), (0, _), (1, _)]) dX0_treeFaultsAt_62 (by decide) rfl ?_
      refine xs_sub (L' := [(6, _), (5, _), (4, _), (3, _), (2, _), (0, _)]) [0, 1, 2, 3, 4, 5] rfl ?_
      exact t_Bi_tf _ 0 _ _ _ (Nat.zero_add _) (by simp only [mBi_tf, if_neg c12, if_pos c41] at hX; exact hX)
    · refine xs_iconst (v := 1) dX0_treeFaultsAt_44 (by decide) ?_
      refine xs_goto (t := 49) dX0_treeFaultsAt_45 (by decide) ?_
      refine xs_istore_n (L' := [(3, _), (2, _), (0, _), (1, _)]) dX0_treeFaultsAt_49 (by decide) rfl ?_
      refine xs_iconst (v := 0) dX0_treeFaultsAt_50 (by decide) ?_
      refine xs_istore (L' := [(4, _), (3, _), (2, _), (0, _), (1, _)]) dX0_treeFaultsAt_51 (by decide) rfl ?_
      refine xs_aload_n 3 dX0_treeFaultsAt_53 rfl ?_
      refine g_Bi_heads dX0_treeFaultsAt_54 ?_
      refine xs_iload_n 4 dX0_treeFaultsAt_57 rfl ?_
      refine al_S4 dX0_treeFaultsAt_58 ?_
      refine xs_istore (L' := [(5, _), (4, _), (3, _), (2, _), (0, _), (1, _)]) dX0_treeFaultsAt_59 (by decide) rfl ?_
      refine xs_iconst (v := nI 0) dX0_treeFaultsAt_61 rfl ?_
      refine xs_istore (L' := [(6, _), (5, _), (4, _), (3, _), (2, _), (0, _), (1, _)]) dX0_treeFaultsAt_62 (by decide) rfl ?_
      refine xs_sub (L' := [(6, _), (5, _), (4, _), (3, _), (2, _), (0, _)]) [0, 1, 2, 3, 4, 5] rfl ?_
      exact t_Bi_tf _ 0 _ _ _ (Nat.zero_add _) (by simp only [mBi_tf, if_neg c12, if_neg c41] at hX; exact hX)
  · refine xs_iload_n 0 dX0_treeFaultsAt_15 rfl ?_
    refine xs_bipush (v := 8) dX0_treeFaultsAt_16 (by decide) ?_
    refine xs_icmp_le (t := 25) dX0_treeFaultsAt_18 (by decide) (fun c18 => ?_) (fun c18 => ?_)
    · refine xs_iconst (v := 0) dX0_treeFaultsAt_25 (by decide) ?_
      exact xs_iret hX rfl dX0_treeFaultsAt_26 (by simp only [mBi_tf, if_pos c12, if_pos c18]) rfl
    · refine xs_iconst (v := 1) dX0_treeFaultsAt_21 (by decide) ?_
      refine xs_goto (t := 26) dX0_treeFaultsAt_22 (by decide) ?_
      exact xs_iret hX rfl dX0_treeFaultsAt_26 (by simp only [mBi_tf, if_pos c12, if_neg c18]) rfl
theorem k_Bi_tf {X : xz_X} {cA : ClassId} {own : String} {ad : Nat → Nat} {cc : ByteArray} {nL : Nat} {ret : Option FieldType} {R : Room} {s : zT} {pc ix : Nat} {L : List (Nat × Value)} {st : List Value} {p : zP} (d : decode cc pc = .ok (.invokevirtual ix, 3)) (hw : xwV own ix yX0_treeFaultsAt cX0_treeFaultsAt 7 (some .int) 1) (hR : xroom R_Bi_tf 7 R) (hst : (st.map fun v => v.category).sum ≤ 8) (kk : xs X cA own cc nL ret R (wd ad cA (s)) 0 0 (pc + 3) L (.int (mBi_tf s p) :: st)) : xs X cA own cc nL ret R (wd ad cA s) 0 0 pc L (.int (zp p) :: .ref (ad 1) :: st) :=
  xs_call 1 (c_Bi_tf ad cA s p) rfl rfl d hw hR rfl rfl rfl hst ⟨Nat.zero_le _, Nat.zero_le _⟩ kk
abbrev R_Bi_fa : Room := { frames := 3, cells := 0, slots := 0, locals := 74 }
set_option maxRecDepth 100000 in
theorem kw_Bi_Bi_find : xwV RX0 93 yX0_slotOf cX0_slotOf 5 (some .int) 1 := ⟨⟨xt_of (List.mem_of_getElem? (i := 159) rfl) rfl, xt_of (by decide +kernel) rfl, xt_of (by decide +kernel) rfl, by decide +kernel⟩, xt_of (by decide +kernel) rfl, xt_of (by decide +kernel) rfl⟩
set_option maxRecDepth 100000 in
theorem kw_Bi_Bi_tf : xwV RX0 95 yX0_treeFaultsAt cX0_treeFaultsAt 7 (some .int) 1 := ⟨⟨xt_of (List.mem_of_getElem? (i := 257) rfl) rfl, xt_of (by decide +kernel) rfl, xt_of (by decide +kernel) rfl, by decide +kernel⟩, xt_of (by decide +kernel) rfl, xt_of (by decide +kernel) rfl⟩
set_option maxHeartbeats 4000000 in
set_option maxRecDepth 100000 in
theorem t_Bi_fa1 {X : xz_X} {ad : Nat → Nat} {cA : ClassId} {s : zT} {p : zP} : ∀ (x : Int32) (f : zS), xfin X cA 0 0 (some (.int (mBi_fa1 s p x f))) (wd ad cA (s)) → xs X cA RX0 cX0_faultsAt 7 (some .int) R_Bi_fa (wd ad cA s) 0 0 99 [(3, .int (zs f)), (2, .int x), (1, .int (zp p)), (0, .ref (ad 1))] [] := by
  intro x f hX
  refine xs_iload_n 0 dX0_faultsAt_99 rfl ?_
  refine xs_sif_eq (t := 121) dX0_faultsAt_100 (by decide) (fun c100 => ?_) (fun c100 => ?_)
  · refine xs_iload_n 1 dX0_faultsAt_121 rfl ?_
    refine xs_aload_n 3 dX0_faultsAt_122 rfl ?_
    refine xs_iload_n 2 dX0_faultsAt_123 rfl ?_
    refine k_Bi_tf dX0_faultsAt_124 kw_Bi_Bi_tf (by decide) (Nat.le_of_ble_eq_true rfl) ?_
    refine xs_iadd dX0_faultsAt_127 ?_
    exact xs_iret hX rfl dX0_faultsAt_128 (by simp only [mBi_fa1, if_pos c100]) rfl
  · refine xs_aload_n 3 dX0_faultsAt_103 rfl ?_
    refine g_Bi_previous dX0_faultsAt_104 ?_
    refine xs_aload_n 3 dX0_faultsAt_107 rfl ?_
    refine g_Bi_heads dX0_faultsAt_108 ?_
    refine xs_iload_n 2 dX0_faultsAt_111 rfl ?_
    refine al_S4 dX0_faultsAt_112 ?_
    refine al_S3 dX0_faultsAt_113 ?_
    refine xs_iload_n 0 dX0_faultsAt_114 rfl ?_
    refine xs_scmp_eq (t := 121) dX0_faultsAt_115 (by decide) (fun c115 => ?_) (fun c115 => ?_)
    · refine xs_iload_n 1 dX0_faultsAt_121 rfl ?_
      refine xs_aload_n 3 dX0_faultsAt_122 rfl ?_
      refine xs_iload_n 2 dX0_faultsAt_123 rfl ?_
      refine k_Bi_tf dX0_faultsAt_124 kw_Bi_Bi_tf (by decide) (Nat.le_of_ble_eq_true rfl) ?_
      refine xs_iadd dX0_faultsAt_127 ?_
      exact xs_iret hX rfl dX0_faultsAt_128 (by simp only [mBi_fa1, if_neg c100, if_pos c115]) rfl
    · refine xs_iinc_1 (L' := [(2, _), (3, _), (1, _), (0, _)]) 1 dX0_faultsAt_118 rfl (by decide) rfl ?_
      refine xs_iload_n 0 dX0_faultsAt_121 rfl ?_
      refine xs_aload_n 3 dX0_faultsAt_122 rfl ?_
      refine xs_iload_n 2 dX0_faultsAt_123 rfl ?_
      refine k_Bi_tf dX0_faultsAt_124 kw_Bi_Bi_tf (by decide) (Nat.le_of_ble_eq_true rfl) ?_
      refine xs_iadd dX0_faultsAt_127 ?_
      exact xs_iret hX rfl dX0_faultsAt_128 (by simp only [mBi_fa1, if_neg c100, if_neg c115]) rfl
set_option maxHeartbeats 4000000 in
set_option maxRecDepth 100000 in
theorem t_Bi_fa {X : xz_X} {ad : Nat → Nat} {cA : ClassId} {s : zT} {p : zP} (hr : rok s) : ∀ (n i : Nat) (x : Int32) (f a : zS), i + n = 2002 → xfin X cA 0 0 (some (.int (mBi_faL s p n x f a))) (wd ad cA (s)) → xs X cA RX0 cX0_faultsAt 7 (some .int) R_Bi_fa (wd ad cA s) 0 0 15 [(5, .int (nI i)), (4, .int (zs a)), (3, .int (zs f)), (2, .int x), (1, .int (zp p)), (0, .ref (ad 1))] [] := by
  intro n
  induction n with
  | zero =>
    intro i x f a hi hX
    refine xs_iload 0 dX0_faultsAt_15 rfl ?_
    refine xs_sipush (v := 2002) dX0_faultsAt_17 (by decide) ?_
    refine xs_icmp_ge (t := 99) dX0_faultsAt_20 (by decide) (fun c20 => ?_) (fun c20 => ?_)
    · refine xs_sub (L' := [(3, _), (2, _), (1, _), (0, _)]) [2, 3, 4, 5] rfl ?_
      exact t_Bi_fa1 _ _ hX
    · exact absurd (show (2002 : Int32) ≤ nI i from kn_le (m := 2002) (by omega) (by omega)) c20
  | succ n ih =>
    intro i x f a hi hX
    refine xs_iload 0 dX0_faultsAt_15 rfl ?_
    refine xs_sipush (v := 2002) dX0_faultsAt_17 (by decide) ?_
    refine xs_icmp_ge (t := 99) dX0_faultsAt_20 (by decide) (fun c20 => ?_) (fun c20 => ?_)
    · exact absurd c20 (show ¬ (2002 : Int32) ≤ nI i from kn_nle (m := 2002) (by omega) (by decide))
    · refine xs_iload 1 dX0_faultsAt_23 rfl ?_
      refine xs_sif_eq (t := 99) dX0_faultsAt_25 (by decide) (fun c25 => ?_) (fun c25 => ?_)
      · refine xs_sub (L' := [(3, _), (2, _), (1, _), (0, _)]) [2, 3, 4, 5] rfl ?_
        exact t_Bi_fa1 _ _ (by simp only [mBi_faL, if_neg c20, if_pos c25] at hX; exact hX)
      · refine xs_aload_n 5 dX0_faultsAt_28 rfl ?_
        refine g_Bi_trees dX0_faultsAt_29 ?_
        refine xs_iload 1 dX0_faultsAt_32 rfl ?_
        refine k_Tr_keyOf dX0_faultsAt_34 kw_Bi_Tr_keyOf (by decide) (Nat.le_of_ble_eq_true rfl) ?_
        refine xs_istore (L' := [(6, _), (5, _), (4, _), (3, _), (2, _), (1, _), (0, _)]) dX0_faultsAt_37 (by decide) rfl ?_
        refine xs_aload_n 6 dX0_faultsAt_39 rfl ?_
        refine xs_iload 0 dX0_faultsAt_40 rfl ?_
        refine k_Bi_place dX0_faultsAt_42 kw_Bi_Bi_place (by decide) (Nat.le_of_ble_eq_true rfl) hr ?_
        refine xs_iload_n 5 dX0_faultsAt_45 rfl ?_
        refine xs_pcmp_ne (t := 60) dX0_faultsAt_46 (by decide) (fun c46 => ?_) (fun c46 => ?_)
        · refine xs_iinc_1 (L' := [(2, _), (6, _), (5, _), (4, _), (3, _), (1, _), (0, _)]) 4 dX0_faultsAt_60 rfl (by decide) rfl ?_
          refine xs_iload_n 4 dX0_faultsAt_63 rfl ?_
          refine xs_sif_eq (t := 81) dX0_faultsAt_64 (by decide) (fun c64 => ?_) (fun c64 => ?_)
          · refine xs_iload 3 dX0_faultsAt_81 rfl ?_
            refine xs_istore_n (L' := [(3, _), (2, _), (6, _), (5, _), (4, _), (1, _), (0, _)]) dX0_faultsAt_83 (by decide) rfl ?_
            refine xs_aload_n 6 dX0_faultsAt_84 rfl ?_
            refine g_Bi_next dX0_faultsAt_85 ?_
            refine xs_iload 4 dX0_faultsAt_88 rfl ?_
            refine al_S2 dX0_faultsAt_90 ?_
            refine xs_istore (L' := [(4, _), (3, _), (2, _), (6, _), (5, _), (1, _), (0, _)]) dX0_faultsAt_91 (by decide) rfl ?_
            refine xs_iinc_n (L' := [(5, _), (4, _), (3, _), (2, _), (6, _), (1, _), (0, _)]) 4 dX0_faultsAt_93 rfl (by decide) rfl ?_
            refine xs_goto (t := 15) dX0_faultsAt_96 (by decide) ?_
            refine xs_sub (L' := [(5, _), (4, _), (3, _), (2, _), (1, _), (0, _)]) [0, 1, 2, 3, 5, 6] rfl ?_
            exact ih _ _ _ _ (by omega) (by simp only [mBi_faL, mBi_faL1, mBi_faL2, if_neg c20, if_neg c25, if_neg c46, if_pos c64] at hX; exact hX)
          · refine xs_aload_n 6 dX0_faultsAt_67 rfl ?_
            refine g_Bi_previous dX0_faultsAt_68 ?_
            refine xs_iload 3 dX0_faultsAt_71 rfl ?_
            refine al_S3 dX0_faultsAt_73 ?_
            refine xs_iload_n 4 dX0_faultsAt_74 rfl ?_
            refine xs_scmp_eq (t := 81) dX0_faultsAt_75 (by decide) (fun c75 => ?_) (fun c75 => ?_)
            · refine xs_iload 3 dX0_faultsAt_81 rfl ?_
              refine xs_istore_n (L' := [(3, _), (2, _), (6, _), (5, _), (4, _), (1, _), (0, _)]) dX0_faultsAt_83 (by decide) rfl ?_
              refine xs_aload_n 6 dX0_faultsAt_84 rfl ?_
              refine g_Bi_next dX0_faultsAt_85 ?_
              refine xs_iload 4 dX0_faultsAt_88 rfl ?_
              refine al_S2 dX0_faultsAt_90 ?_
              refine xs_istore (L' := [(4, _), (3, _), (2, _), (6, _), (5, _), (1, _), (0, _)]) dX0_faultsAt_91 (by decide) rfl ?_
              refine xs_iinc_n (L' := [(5, _), (4, _), (3, _), (2, _), (6, _), (1, _), (0, _)]) 4 dX0_faultsAt_93 rfl (by decide) rfl ?_
              refine xs_goto (t := 15) dX0_faultsAt_96 (by decide) ?_
              refine xs_sub (L' := [(5, _), (4, _), (3, _), (2, _), (1, _), (0, _)]) [0, 1, 2, 3, 5, 6] rfl ?_
              exact ih _ _ _ _ (by omega) (by simp only [mBi_faL, mBi_faL1, mBi_faL2, if_neg c20, if_neg c25, if_neg c46, if_neg c64, if_pos c75] at hX; exact hX)
            · refine xs_iinc_1 (L' := [(2, _), (6, _), (5, _), (4, _), (3, _), (1, _), (0, _)]) 0 dX0_faultsAt_78 rfl (by decide) rfl ?_
              refine xs_iload 3 dX0_faultsAt_81 rfl ?_
              refine xs_istore_n (L' := [(3, _), (2, _), (6, _), (5, _), (4, _), (1, _), (0, _)]) dX0_faultsAt_83 (by decide) rfl ?_
              refine xs_aload_n 6 dX0_faultsAt_84 rfl ?_
              refine g_Bi_next dX0_faultsAt_85 ?_
              refine xs_iload 4 dX0_faultsAt_88 rfl ?_
              refine al_S2 dX0_faultsAt_90 ?_
              refine xs_istore (L' := [(4, _), (3, _), (2, _), (6, _), (5, _), (1, _), (0, _)]) dX0_faultsAt_91 (by decide) rfl ?_
              refine xs_iinc_n (L' := [(5, _), (4, _), (3, _), (2, _), (6, _), (1, _), (0, _)]) 4 dX0_faultsAt_93 rfl (by decide) rfl ?_
              refine xs_goto (t := 15) dX0_faultsAt_96 (by decide) ?_
              refine xs_sub (L' := [(5, _), (4, _), (3, _), (2, _), (1, _), (0, _)]) [0, 1, 2, 3, 5, 6] rfl ?_
              exact ih _ _ _ _ (by omega) (by simp only [mBi_faL, mBi_faL1, mBi_faL2, if_neg c20, if_neg c25, if_neg c46, if_neg c64, if_neg c75] at hX; exact hX)
        · refine xs_aload_n 6 dX0_faultsAt_49 rfl ?_
          refine xs_iload 0 dX0_faultsAt_50 rfl ?_
          refine k_Bi_find dX0_faultsAt_52 kw_Bi_Bi_find (by decide) (Nat.le_of_ble_eq_true rfl) hr ?_
          refine xs_iload 2 dX0_faultsAt_55 rfl ?_
          refine xs_scmp_eq (t := 63) dX0_faultsAt_57 (by decide) (fun c57 => ?_) (fun c57 => ?_)
          · refine xs_iload_n 3 dX0_faultsAt_63 rfl ?_
            refine xs_sif_eq (t := 81) dX0_faultsAt_64 (by decide) (fun c64 => ?_) (fun c64 => ?_)
            · refine xs_iload 2 dX0_faultsAt_81 rfl ?_
              refine xs_istore_n (L' := [(3, _), (6, _), (5, _), (4, _), (2, _), (1, _), (0, _)]) dX0_faultsAt_83 (by decide) rfl ?_
              refine xs_aload_n 6 dX0_faultsAt_84 rfl ?_
              refine g_Bi_next dX0_faultsAt_85 ?_
              refine xs_iload 3 dX0_faultsAt_88 rfl ?_
              refine al_S2 dX0_faultsAt_90 ?_
              refine xs_istore (L' := [(4, _), (3, _), (6, _), (5, _), (2, _), (1, _), (0, _)]) dX0_faultsAt_91 (by decide) rfl ?_
              refine xs_iinc_n (L' := [(5, _), (4, _), (3, _), (6, _), (2, _), (1, _), (0, _)]) 3 dX0_faultsAt_93 rfl (by decide) rfl ?_
              refine xs_goto (t := 15) dX0_faultsAt_96 (by decide) ?_
              refine xs_sub (L' := [(5, _), (4, _), (3, _), (2, _), (1, _), (0, _)]) [0, 1, 2, 4, 5, 6] rfl ?_
              exact ih _ _ _ _ (by omega) (by simp only [mBi_faL, mBi_faL1, mBi_faL2, if_neg c20, if_neg c25, if_pos c46, if_pos c57, if_pos c64] at hX; exact hX)
            · refine xs_aload_n 6 dX0_faultsAt_67 rfl ?_
              refine g_Bi_previous dX0_faultsAt_68 ?_
              refine xs_iload 2 dX0_faultsAt_71 rfl ?_
              refine al_S3 dX0_faultsAt_73 ?_
              refine xs_iload_n 3 dX0_faultsAt_74 rfl ?_
              refine xs_scmp_eq (t := 81) dX0_faultsAt_75 (by decide) (fun c75 => ?_) (fun c75 => ?_)
              · refine xs_iload 2 dX0_faultsAt_81 rfl ?_
                refine xs_istore_n (L' := [(3, _), (6, _), (5, _), (4, _), (2, _), (1, _), (0, _)]) dX0_faultsAt_83 (by decide) rfl ?_
                refine xs_aload_n 6 dX0_faultsAt_84 rfl ?_
                refine g_Bi_next dX0_faultsAt_85 ?_
                refine xs_iload 3 dX0_faultsAt_88 rfl ?_
                refine al_S2 dX0_faultsAt_90 ?_
                refine xs_istore (L' := [(4, _), (3, _), (6, _), (5, _), (2, _), (1, _), (0, _)]) dX0_faultsAt_91 (by decide) rfl ?_
                refine xs_iinc_n (L' := [(5, _), (4, _), (3, _), (6, _), (2, _), (1, _), (0, _)]) 3 dX0_faultsAt_93 rfl (by decide) rfl ?_
                refine xs_goto (t := 15) dX0_faultsAt_96 (by decide) ?_
                refine xs_sub (L' := [(5, _), (4, _), (3, _), (2, _), (1, _), (0, _)]) [0, 1, 2, 4, 5, 6] rfl ?_
                exact ih _ _ _ _ (by omega) (by simp only [mBi_faL, mBi_faL1, mBi_faL2, if_neg c20, if_neg c25, if_pos c46, if_pos c57, if_neg c64, if_pos c75] at hX; exact hX)
              · refine xs_iinc_1 (L' := [(2, _), (6, _), (5, _), (4, _), (3, _), (1, _), (0, _)]) 4 dX0_faultsAt_78 rfl (by decide) rfl ?_
                refine xs_iload 3 dX0_faultsAt_81 rfl ?_
                refine xs_istore_n (L' := [(3, _), (2, _), (6, _), (5, _), (4, _), (1, _), (0, _)]) dX0_faultsAt_83 (by decide) rfl ?_
                refine xs_aload_n 6 dX0_faultsAt_84 rfl ?_
                refine g_Bi_next dX0_faultsAt_85 ?_
                refine xs_iload 4 dX0_faultsAt_88 rfl ?_
                refine al_S2 dX0_faultsAt_90 ?_
                refine xs_istore (L' := [(4, _), (3, _), (2, _), (6, _), (5, _), (1, _), (0, _)]) dX0_faultsAt_91 (by decide) rfl ?_
                refine xs_iinc_n (L' := [(5, _), (4, _), (3, _), (2, _), (6, _), (1, _), (0, _)]) 4 dX0_faultsAt_93 rfl (by decide) rfl ?_
                refine xs_goto (t := 15) dX0_faultsAt_96 (by decide) ?_
                refine xs_sub (L' := [(5, _), (4, _), (3, _), (2, _), (1, _), (0, _)]) [0, 1, 2, 3, 5, 6] rfl ?_
                exact ih _ _ _ _ (by omega) (by simp only [mBi_faL, mBi_faL1, mBi_faL2, if_neg c20, if_neg c25, if_pos c46, if_pos c57, if_neg c64, if_neg c75] at hX; exact hX)
          · refine xs_iinc_1 (L' := [(2, _), (6, _), (5, _), (4, _), (3, _), (1, _), (0, _)]) 4 dX0_faultsAt_60 rfl (by decide) rfl ?_
            refine xs_iload_n 4 dX0_faultsAt_63 rfl ?_
            refine xs_sif_eq (t := 81) dX0_faultsAt_64 (by decide) (fun c64 => ?_) (fun c64 => ?_)
            · refine xs_iload 3 dX0_faultsAt_81 rfl ?_
              refine xs_istore_n (L' := [(3, _), (2, _), (6, _), (5, _), (4, _), (1, _), (0, _)]) dX0_faultsAt_83 (by decide) rfl ?_
              refine xs_aload_n 6 dX0_faultsAt_84 rfl ?_
              refine g_Bi_next dX0_faultsAt_85 ?_
              refine xs_iload 4 dX0_faultsAt_88 rfl ?_
              refine al_S2 dX0_faultsAt_90 ?_
              refine xs_istore (L' := [(4, _), (3, _), (2, _), (6, _), (5, _), (1, _), (0, _)]) dX0_faultsAt_91 (by decide) rfl ?_
              refine xs_iinc_n (L' := [(5, _), (4, _), (3, _), (2, _), (6, _), (1, _), (0, _)]) 4 dX0_faultsAt_93 rfl (by decide) rfl ?_
              refine xs_goto (t := 15) dX0_faultsAt_96 (by decide) ?_
              refine xs_sub (L' := [(5, _), (4, _), (3, _), (2, _), (1, _), (0, _)]) [0, 1, 2, 3, 5, 6] rfl ?_
              exact ih _ _ _ _ (by omega) (by simp only [mBi_faL, mBi_faL1, mBi_faL2, if_neg c20, if_neg c25, if_pos c46, if_neg c57, if_pos c64] at hX; exact hX)
            · refine xs_aload_n 6 dX0_faultsAt_67 rfl ?_
              refine g_Bi_previous dX0_faultsAt_68 ?_
              refine xs_iload 3 dX0_faultsAt_71 rfl ?_
              refine al_S3 dX0_faultsAt_73 ?_
              refine xs_iload_n 4 dX0_faultsAt_74 rfl ?_
              refine xs_scmp_eq (t := 81) dX0_faultsAt_75 (by decide) (fun c75 => ?_) (fun c75 => ?_)
              · refine xs_iload 3 dX0_faultsAt_81 rfl ?_
                refine xs_istore_n (L' := [(3, _), (2, _), (6, _), (5, _), (4, _), (1, _), (0, _)]) dX0_faultsAt_83 (by decide) rfl ?_
                refine xs_aload_n 6 dX0_faultsAt_84 rfl ?_
                refine g_Bi_next dX0_faultsAt_85 ?_
                refine xs_iload 4 dX0_faultsAt_88 rfl ?_
                refine al_S2 dX0_faultsAt_90 ?_
                refine xs_istore (L' := [(4, _), (3, _), (2, _), (6, _), (5, _), (1, _), (0, _)]) dX0_faultsAt_91 (by decide) rfl ?_
                refine xs_iinc_n (L' := [(5, _), (4, _), (3, _), (2, _), (6, _), (1, _), (0, _)]) 4 dX0_faultsAt_93 rfl (by decide) rfl ?_
                refine xs_goto (t := 15) dX0_faultsAt_96 (by decide) ?_
                refine xs_sub (L' := [(5, _), (4, _), (3, _), (2, _), (1, _), (0, _)]) [0, 1, 2, 3, 5, 6] rfl ?_
                exact ih _ _ _ _ (by omega) (by simp only [mBi_faL, mBi_faL1, mBi_faL2, if_neg c20, if_neg c25, if_pos c46, if_neg c57, if_neg c64, if_pos c75] at hX; exact hX)
              · refine xs_iinc_1 (L' := [(2, _), (6, _), (5, _), (4, _), (3, _), (1, _), (0, _)]) 0 dX0_faultsAt_78 rfl (by decide) rfl ?_
                refine xs_iload 3 dX0_faultsAt_81 rfl ?_
                refine xs_istore_n (L' := [(3, _), (2, _), (6, _), (5, _), (4, _), (1, _), (0, _)]) dX0_faultsAt_83 (by decide) rfl ?_
                refine xs_aload_n 6 dX0_faultsAt_84 rfl ?_
                refine g_Bi_next dX0_faultsAt_85 ?_
                refine xs_iload 4 dX0_faultsAt_88 rfl ?_
                refine al_S2 dX0_faultsAt_90 ?_
                refine xs_istore (L' := [(4, _), (3, _), (2, _), (6, _), (5, _), (1, _), (0, _)]) dX0_faultsAt_91 (by decide) rfl ?_
                refine xs_iinc_n (L' := [(5, _), (4, _), (3, _), (2, _), (6, _), (1, _), (0, _)]) 4 dX0_faultsAt_93 rfl (by decide) rfl ?_
                refine xs_goto (t := 15) dX0_faultsAt_96 (by decide) ?_
                refine xs_sub (L' := [(5, _), (4, _), (3, _), (2, _), (1, _), (0, _)]) [0, 1, 2, 3, 5, 6] rfl ?_
                exact ih _ _ _ _ (by omega) (by simp only [mBi_faL, mBi_faL1, mBi_faL2, if_neg c20, if_neg c25, if_pos c46, if_neg c57, if_neg c64, if_neg c75] at hX; exact hX)
set_option maxHeartbeats 4000000 in
set_option maxRecDepth 100000 in
theorem c_Bi_fa (ad : Nat → Nat) (cA : ClassId) (s : zT) (p : zP) (hr : rok s) : xct cA yX0_faultsAt cX0_faultsAt 7 (some .int) R_Bi_fa [.ref (ad 1), .int (zp p)] (wd ad cA s) (some (.int (mBi_fa s p))) (wd ad cA (s)) := by
  refine xct_of (own := RX0) (by decide) rfl (Nat.le_of_ble_eq_true rfl) (fun X hX => ?_)
  show xs X cA RX0 cX0_faultsAt 7 (some .int) R_Bi_fa (wd ad cA s) 0 0 0 [(0, .ref (ad 1)), (1, .int (zp p))] []
  refine xs_iconst (v := 0) dX0_faultsAt_0 (by decide) ?_
  refine xs_istore_n (L' := [(2, _), (0, _), (1, _)]) dX0_faultsAt_1 (by decide) rfl ?_
  refine xs_iconst (v := zs 0) dX0_faultsAt_2 rfl ?_
  refine xs_istore_n (L' := [(3, _), (2, _), (0, _), (1, _)]) dX0_faultsAt_3 (by decide) rfl ?_
  refine xs_aload_n 2 dX0_faultsAt_4 rfl ?_
  refine g_Bi_heads dX0_faultsAt_5 ?_
  refine xs_iload_n 3 dX0_faultsAt_8 rfl ?_
  refine al_S4 dX0_faultsAt_9 ?_
  refine xs_istore (L' := [(4, _), (3, _), (2, _), (0, _), (1, _)]) dX0_faultsAt_10 (by decide) rfl ?_
  refine xs_iconst (v := nI 0) dX0_faultsAt_12 rfl ?_
  refine xs_istore (L' := [(5, _), (4, _), (3, _), (2, _), (0, _), (1, _)]) dX0_faultsAt_13 (by decide) rfl ?_
  refine xs_sub (L' := [(5, _), (4, _), (3, _), (2, _), (1, _), (0, _)]) [0, 1, 2, 3, 5, 4] rfl ?_
  exact t_Bi_fa hr 2002 0 _ _ _ rfl hX
theorem k_Bi_fa {X : xz_X} {cA : ClassId} {own : String} {ad : Nat → Nat} {cc : ByteArray} {nL : Nat} {ret : Option FieldType} {R : Room} {s : zT} {pc ix : Nat} {L : List (Nat × Value)} {st : List Value} {p : zP} (d : decode cc pc = .ok (.invokevirtual ix, 3)) (hw : xwV own ix yX0_faultsAt cX0_faultsAt 7 (some .int) 1) (hR : xroom R_Bi_fa 7 R) (hst : (st.map fun v => v.category).sum ≤ 8) (hr : rok s) (kk : xs X cA own cc nL ret R (wd ad cA (s)) 0 0 (pc + 3) L (.int (mBi_fa s p) :: st)) : xs X cA own cc nL ret R (wd ad cA s) 0 0 pc L (.int (zp p) :: .ref (ad 1) :: st) :=
  xs_call 1 (c_Bi_fa ad cA s p hr) rfl rfl d hw hR rfl rfl rfl hst ⟨Nat.zero_le _, Nat.zero_le _⟩ kk
abbrev R_Bi_faults : Room := { frames := 4, cells := 0, slots := 0, locals := 100 }
set_option maxRecDepth 100000 in
theorem kw_Bi_Bi_fa : xwV RX0 84 yX0_faultsAt cX0_faultsAt 7 (some .int) 1 := ⟨⟨xt_of (List.mem_of_getElem? (i := 252) rfl) rfl, xt_of (by decide +kernel) rfl, xt_of (by decide +kernel) rfl, by decide +kernel⟩, xt_of (by decide +kernel) rfl, xt_of (by decide +kernel) rfl⟩
set_option maxRecDepth 100000 in
theorem kw_Bi_Bi_tight : xwV RX0 90 yX0_isTight cX0_isTight 2 (some .boolean) 1 := ⟨⟨xt_of (List.mem_of_getElem? (i := 281) rfl) rfl, xt_of (by decide +kernel) rfl, xt_of (by decide +kernel) rfl, by decide +kernel⟩, xt_of (by decide +kernel) rfl, xt_of (by decide +kernel) rfl⟩
set_option maxHeartbeats 4000000 in
set_option maxRecDepth 100000 in
theorem t_Bi_f2 {X : xz_X} {ad : Nat → Nat} {cA : ClassId} {s : zT} {c : Int32} : ∀ (x : Int32), xfin X cA 0 0 (some (.int (mBi_faults2 s c x))) (wd ad cA (s)) → xs X cA RX0 cX0_faults 5 (some .int) R_Bi_faults (wd ad cA s) 0 0 48 [(2, .int x), (1, .int c), (0, .ref (ad 1))] [] := by
  intro x hX
  refine xs_aload_n 2 dX0_faults_48 rfl ?_
  refine xs_iload_n 1 dX0_faults_49 rfl ?_
  refine k_Bi_tight dX0_faults_50 kw_Bi_Bi_tight (by decide) (Nat.le_of_ble_eq_true rfl) ?_
  refine xs_bif_eq (t := 59) dX0_faults_53 (by decide) (fun c53 => ?_) (fun c53 => ?_)
  · refine xs_iload_n 0 dX0_faults_59 rfl ?_
    exact xs_iret hX rfl dX0_faults_60 (by simp only [mBi_faults2, c53, ↓reduceIte, Bool.false_eq_true]) rfl
  · refine xs_iinc_1 (L' := [(2, _), (1, _), (0, _)]) 0 dX0_faults_56 rfl (by decide) rfl ?_
    refine xs_iload_n 0 dX0_faults_59 rfl ?_
    exact xs_iret hX rfl dX0_faults_60 (by simp only [mBi_faults2, c53, ↓reduceIte, Bool.false_eq_true]) rfl
set_option maxHeartbeats 4000000 in
set_option maxRecDepth 100000 in
theorem t_Bi_f1 {X : xz_X} {ad : Nat → Nat} {cA : ClassId} {s : zT} {c : Int32} : ∀ (x y : Int32), xfin X cA 0 0 (some (.int (mBi_faults1 s c x y))) (wd ad cA (s)) → xs X cA RX0 cX0_faults 5 (some .int) R_Bi_faults (wd ad cA s) 0 0 40 [(3, .int y), (2, .int x), (1, .int c), (0, .ref (ad 1))] [] := by
  intro x y hX
  refine xs_iload_n 0 dX0_faults_40 rfl ?_
  refine xs_iload_n 2 dX0_faults_41 rfl ?_
  refine xs_icmp_eq (t := 48) dX0_faults_42 (by decide) (fun c42 => ?_) (fun c42 => ?_)
  · refine xs_sub (L' := [(2, _), (1, _), (0, _)]) [1, 2, 3] rfl ?_
    exact t_Bi_f2 _ (by simp only [mBi_faults1, if_pos c42] at hX; exact hX)
  · refine xs_iinc_1 (L' := [(2, _), (3, _), (1, _), (0, _)]) 1 dX0_faults_45 rfl (by decide) rfl ?_
    refine xs_sub (L' := [(2, _), (1, _), (0, _)]) [0, 2, 3] rfl ?_
    exact t_Bi_f2 _ (by simp only [mBi_faults1, if_neg c42] at hX; exact hX)
set_option maxHeartbeats 4000000 in
set_option maxRecDepth 100000 in
theorem t_Bi_f0 {X : xz_X} {ad : Nat → Nat} {cA : ClassId} {s : zT} {c : Int32} (hr : rok s) : ∀ (n i : Nat) (x y : Int32), i + n = (s.2 4 3).toNatClampNeg → xfin X cA 0 0 (some (.int (mBi_faultsL s c n i x y))) (wd ad cA (s)) → xs X cA RX0 cX0_faults 5 (some .int) R_Bi_faults (wd ad cA s) 0 0 7 [(4, .int (nI i)), (3, .int y), (2, .int x), (1, .int c), (0, .ref (ad 1))] [] := by
  intro n
  induction n with
  | zero =>
    intro i x y hi hX
    refine xs_iload 0 dX0_faults_7 rfl ?_
    refine xs_aload_n 4 dX0_faults_9 rfl ?_
    refine g_Bi_room dX0_faults_10 ?_
    refine xs_icmp_ge (t := 40) dX0_faults_13 (by decide) (fun c13 => ?_) (fun c13 => ?_)
    · refine xs_sub (L' := [(3, _), (2, _), (1, _), (0, _)]) [1, 2, 3, 4] rfl ?_
      exact t_Bi_f1 _ _ hX
    · exact absurd (cnt_le (by omega) (by have := cnt_lt31 (s.2 4 3); omega)) c13
  | succ n ih =>
    intro i x y hi hX
    have h4 := rok_le hr
    refine xs_iload 0 dX0_faults_7 rfl ?_
    refine xs_aload_n 4 dX0_faults_9 rfl ?_
    refine g_Bi_room dX0_faults_10 ?_
    refine xs_icmp_ge (t := 40) dX0_faults_13 (by decide) (fun c13 => ?_) (fun c13 => ?_)
    · exact absurd c13 (cnt_nle (by omega))
    · refine xs_iload_n 2 dX0_faults_16 rfl ?_
      refine xs_aload_n 4 dX0_faults_17 rfl ?_
      refine xs_iload 0 dX0_faults_18 rfl ?_
      refine xs_top (zp_of (by omega)).symm ?_
      refine k_Bi_fa dX0_faults_20 kw_Bi_Bi_fa (by decide) (Nat.le_of_ble_eq_true rfl) hr ?_
      refine xs_iadd dX0_faults_23 ?_
      refine xs_istore_n (L' := [(2, _), (4, _), (3, _), (1, _), (0, _)]) dX0_faults_24 (by decide) rfl ?_
      refine xs_iload_n 2 dX0_faults_25 rfl ?_
      refine xs_aload_n 4 dX0_faults_26 rfl ?_
      refine xs_iload 1 dX0_faults_27 rfl ?_
      refine xs_top (zp_of (by omega)).symm ?_
      refine k_Bi_len dX0_faults_29 kw_Bi_Bi_len (by decide) (Nat.le_of_ble_eq_true rfl) ?_
      refine xs_iadd dX0_faults_32 ?_
      refine xs_istore_n (L' := [(3, _), (2, _), (4, _), (1, _), (0, _)]) dX0_faults_33 (by decide) rfl ?_
      refine xs_iinc_n (L' := [(4, _), (3, _), (2, _), (1, _), (0, _)]) 2 dX0_faults_34 rfl (by decide) rfl ?_
      refine xs_goto (t := 7) dX0_faults_37 (by decide) ?_
      refine xs_sub (L' := [(4, _), (3, _), (2, _), (1, _), (0, _)]) [0, 1, 2, 3, 4] rfl ?_
      exact ih _ _ _ (by omega) hX
set_option maxHeartbeats 4000000 in
set_option maxRecDepth 100000 in
theorem c_Bi_faults (ad : Nat → Nat) (cA : ClassId) (s : zT) (c : Int32) (hr : rok s) : xct cA yX0_faults cX0_faults 5 (some .int) R_Bi_faults [.ref (ad 1), .int c] (wd ad cA s) (some (.int (mBi_faults s c))) (wd ad cA (s)) := by
  refine xct_of (own := RX0) (by decide) rfl (Nat.le_of_ble_eq_true rfl) (fun X hX => ?_)
  show xs X cA RX0 cX0_faults 5 (some .int) R_Bi_faults (wd ad cA s) 0 0 0 [(0, .ref (ad 1)), (1, .int c)] []
  refine xs_iconst (v := 0) dX0_faults_0 (by decide) ?_
  refine xs_istore_n (L' := [(2, _), (0, _), (1, _)]) dX0_faults_1 (by decide) rfl ?_
  refine xs_iconst (v := 0) dX0_faults_2 (by decide) ?_
  refine xs_istore_n (L' := [(3, _), (2, _), (0, _), (1, _)]) dX0_faults_3 (by decide) rfl ?_
  refine xs_iconst (v := nI 0) dX0_faults_4 rfl ?_
  refine xs_istore (L' := [(4, _), (3, _), (2, _), (0, _), (1, _)]) dX0_faults_5 (by decide) rfl ?_
  refine xs_sub (L' := [(4, _), (3, _), (2, _), (1, _), (0, _)]) [0, 1, 2, 4, 3] rfl ?_
  exact t_Bi_f0 hr _ 0 _ _ (Nat.zero_add _) hX
theorem k_Bi_faults {X : xz_X} {cA : ClassId} {own : String} {ad : Nat → Nat} {cc : ByteArray} {nL : Nat} {ret : Option FieldType} {R : Room} {s : zT} {pc ix : Nat} {L : List (Nat × Value)} {st : List Value} {c : Int32} (d : decode cc pc = .ok (.invokevirtual ix, 3)) (hw : xwV own ix yX0_faults cX0_faults 5 (some .int) 1) (hR : xroom R_Bi_faults 5 R) (hst : (st.map fun v => v.category).sum ≤ 8) (hr : rok s) (kk : xs X cA own cc nL ret R (wd ad cA (s)) 0 0 (pc + 3) L (.int (mBi_faults s c) :: st)) : xs X cA own cc nL ret R (wd ad cA s) 0 0 pc L (.int c :: .ref (ad 1) :: st) :=
  xs_call 1 (c_Bi_faults ad cA s c hr) rfl rfl d hw hR rfl rfl rfl hst ⟨Nat.zero_le _, Nat.zero_le _⟩ kk
