set_option maxRecDepth 100000 in
theorem ac_int : Cond.arrayClass .int ∈ xt_tbl := xt_of (by decide +kernel) rfl
set_option maxRecDepth 100000 in
theorem oi_inst : Cond.instanceMethod objectInit ∈ xt_tbl := xt_of (by decide +kernel) rfl
set_option maxRecDepth 100000 in
theorem oi_code : Cond.code objectInit ⟨#[0xb1]⟩ 1 none ∈ xt_tbl := xt_of (List.mem_of_getElem? (i := 56) rfl) rfl
set_option maxRecDepth 100000 in
theorem oi_X2 : Cond.methodLink RX2 3 objectInit ∈ xt_tbl := xt_of (by decide +kernel) rfl
set_option maxRecDepth 100000 in
theorem oi_X0 : Cond.methodLink RX0 3 objectInit ∈ xt_tbl := xt_of (by decide +kernel) rfl
set_option maxRecDepth 100000 in
theorem oi_X1 : Cond.methodLink RX1 3 objectInit ∈ xt_tbl := xt_of (by decide +kernel) rfl
set_option maxRecDepth 100000 in
theorem oi_X3 : Cond.methodLink RX3 3 objectInit ∈ xt_tbl := xt_of (by decide +kernel) rfl
set_option maxRecDepth 100000 in
theorem oi_X4 : Cond.methodLink RX4 1 objectInit ∈ xt_tbl := xt_of (by decide +kernel) rfl
abbrev R_Tr_init : Room := { frames := 1, cells := 5, slots := 8048, locals := 12 }
abbrev R_Bi_init : Room := { frames := 2, cells := 10, slots := 20249, locals := 32 }
abbrev R_Ln_init : Room := { frames := 1, cells := 3, slots := 6006, locals := 12 }
abbrev R_BM_init : Room := { frames := 3, cells := 16, slots := 28271, locals := 52 }
abbrev R_Mo_init : Room := { frames := 1, cells := 4, slots := 14192, locals := 12 }
set_option maxHeartbeats 4000000 in
set_option maxRecDepth 100000 in
theorem c_Tr_init (cA : ClassId) (b : Nat) : xctC cA yX2_init cX2_init 1 R_Tr_init [.ref b] [(b, .inr (2, [.null, .null, .null, .null, .null]))] (fun ad => [(b, .inr (2, [.ref (ad 12), .ref (ad 13), .ref (ad 14), .ref (ad 15), .ref (ad 16)])), (ad 12, .inl (cA, 2002, .inl (fun _ => 0))), (ad 13, .inl (cA, 2002, .inl (fun _ => 0))), (ad 14, .inl (cA, 2002, .inl (fun _ => 0))), (ad 15, .inl (cA, 2002, .inl (fun _ => 0))), (ad 16, .inl (cA, 40, .inl (fun _ => 0)))]) := by
  refine xctC_of (own := RX2) (by decide) rfl rfl (Nat.le_of_ble_eq_true rfl) (fun X hX hI => ?_)
  show xs X cA RX2 cX2_init 1 none R_Tr_init [(b, .inr (2, [.null, .null, .null, .null, .null]))] 0 0 0 [(0, .ref b)] []
  refine xs_aload_n 0 dX2_init_0 rfl ?_
  refine xs_objInit dX2_init_1 oi_X2 oi_inst oi_code (Nat.le_of_ble_eq_true rfl) (Nat.le_of_ble_eq_true rfl) ?_
  refine xs_aload_n 0 dX2_init_4 rfl ?_
  refine xs_sipush (v := 2002) dX2_init_5 (by decide) ?_
  refine xs_newa (N := 2002) dX2_init_8 ac_int (by decide) (by decide) (by decide) (Nat.le_of_ble_eq_true rfl) (Nat.le_of_ble_eq_true rfl) (fun q8 => ?_)
  refine xs_ws (w1 := [(b, .inr (2, [.null, .null, .null, .null, .null])), (q8, .inl (cA, 2002, .inl (fun _ => 0)))]) rfl ?_
  refine xs_putF (ty := .array .int) (w1 := [(b, .inr (2, [.ref q8, .null, .null, .null, .null])), (q8, .inl (cA, 2002, .inl (fun _ => 0)))]) 0 0 tyX2 hI dX2_init_10 rfl rfl (xt_u iX2) tyX2_ok nmX2 (by decide) fl_Tr_keys rfl rfl rfl (by decide +kernel) rfl rfl (Nat.le_of_ble_eq_true rfl) rfl ?_
  refine xs_aload_n 0 dX2_init_13 rfl ?_
  refine xs_sipush (v := 2002) dX2_init_14 (by decide) ?_
  refine xs_newa (N := 2002) dX2_init_17 ac_int (by decide) (by decide) (by decide) (Nat.le_of_ble_eq_true rfl) (Nat.le_of_ble_eq_true rfl) (fun q17 => ?_)
  refine xs_ws (w1 := [(b, .inr (2, [.ref q8, .null, .null, .null, .null])), (q8, .inl (cA, 2002, .inl (fun _ => 0))), (q17, .inl (cA, 2002, .inl (fun _ => 0)))]) rfl ?_
  refine xs_putF (ty := .array .int) (w1 := [(b, .inr (2, [.ref q8, .ref q17, .null, .null, .null])), (q8, .inl (cA, 2002, .inl (fun _ => 0))), (q17, .inl (cA, 2002, .inl (fun _ => 0)))]) 0 1 tyX2 hI dX2_init_19 rfl rfl (xt_u iX2) tyX2_ok nmX2 (by decide) fl_Tr_left rfl rfl rfl (by decide +kernel) rfl rfl (Nat.le_of_ble_eq_true rfl) rfl ?_
  refine xs_aload_n 0 dX2_init_22 rfl ?_
  refine xs_sipush (v := 2002) dX2_init_23 (by decide) ?_
  refine xs_newa (N := 2002) dX2_init_26 ac_int (by decide) (by decide) (by decide) (Nat.le_of_ble_eq_true rfl) (Nat.le_of_ble_eq_true rfl) (fun q26 => ?_)
  refine xs_ws (w1 := [(b, .inr (2, [.ref q8, .ref q17, .null, .null, .null])), (q8, .inl (cA, 2002, .inl (fun _ => 0))), (q17, .inl (cA, 2002, .inl (fun _ => 0))), (q26, .inl (cA, 2002, .inl (fun _ => 0)))]) rfl ?_
  refine xs_putF (ty := .array .int) (w1 := [(b, .inr (2, [.ref q8, .ref q17, .ref q26, .null, .null])), (q8, .inl (cA, 2002, .inl (fun _ => 0))), (q17, .inl (cA, 2002, .inl (fun _ => 0))), (q26, .inl (cA, 2002, .inl (fun _ => 0)))]) 0 2 tyX2 hI dX2_init_28 rfl rfl (xt_u iX2) tyX2_ok nmX2 (by decide) fl_Tr_right rfl rfl rfl (by decide +kernel) rfl rfl (Nat.le_of_ble_eq_true rfl) rfl ?_
  refine xs_aload_n 0 dX2_init_31 rfl ?_
  refine xs_sipush (v := 2002) dX2_init_32 (by decide) ?_
  refine xs_newa (N := 2002) dX2_init_35 ac_int (by decide) (by decide) (by decide) (Nat.le_of_ble_eq_true rfl) (Nat.le_of_ble_eq_true rfl) (fun q35 => ?_)
  refine xs_ws (w1 := [(b, .inr (2, [.ref q8, .ref q17, .ref q26, .null, .null])), (q8, .inl (cA, 2002, .inl (fun _ => 0))), (q17, .inl (cA, 2002, .inl (fun _ => 0))), (q26, .inl (cA, 2002, .inl (fun _ => 0))), (q35, .inl (cA, 2002, .inl (fun _ => 0)))]) rfl ?_
  refine xs_putF (ty := .array .int) (w1 := [(b, .inr (2, [.ref q8, .ref q17, .ref q26, .ref q35, .null])), (q8, .inl (cA, 2002, .inl (fun _ => 0))), (q17, .inl (cA, 2002, .inl (fun _ => 0))), (q26, .inl (cA, 2002, .inl (fun _ => 0))), (q35, .inl (cA, 2002, .inl (fun _ => 0)))]) 0 3 tyX2 hI dX2_init_37 rfl rfl (xt_u iX2) tyX2_ok nmX2 (by decide) fl_Tr_heights rfl rfl rfl (by decide +kernel) rfl rfl (Nat.le_of_ble_eq_true rfl) rfl ?_
  refine xs_aload_n 0 dX2_init_40 rfl ?_
  refine xs_bipush (v := 40) dX2_init_41 (by decide) ?_
  refine xs_newa (N := 40) dX2_init_43 ac_int (by decide) (by decide) (by decide) (Nat.le_of_ble_eq_true rfl) (Nat.le_of_ble_eq_true rfl) (fun q43 => ?_)
  refine xs_ws (w1 := [(b, .inr (2, [.ref q8, .ref q17, .ref q26, .ref q35, .null])), (q8, .inl (cA, 2002, .inl (fun _ => 0))), (q17, .inl (cA, 2002, .inl (fun _ => 0))), (q26, .inl (cA, 2002, .inl (fun _ => 0))), (q35, .inl (cA, 2002, .inl (fun _ => 0))), (q43, .inl (cA, 40, .inl (fun _ => 0)))]) rfl ?_
  refine xs_putF (ty := .array .int) (w1 := [(b, .inr (2, [.ref q8, .ref q17, .ref q26, .ref q35, .ref q43])), (q8, .inl (cA, 2002, .inl (fun _ => 0))), (q17, .inl (cA, 2002, .inl (fun _ => 0))), (q26, .inl (cA, 2002, .inl (fun _ => 0))), (q35, .inl (cA, 2002, .inl (fun _ => 0))), (q43, .inl (cA, 40, .inl (fun _ => 0)))]) 0 4 tyX2 hI dX2_init_45 rfl rfl (xt_u iX2) tyX2_ok nmX2 (by decide) fl_Tr_path rfl rfl rfl (by decide +kernel) rfl rfl (Nat.le_of_ble_eq_true rfl) rfl ?_
  exact xs_vretC (zup (zup (zup (zup (zup (fun _ => 0) 12 q8) 13 q17) 14 q26) 15 q35) 16 q43) hX rfl dX2_init_48 rfl
def mB0 : Nat → Nat → (Nat → zS) → Nat → zS
  | 0, _, f => f
  | n + 1, i, f => mB0 n (i + 1) (zup f i (Fin.ofNat 2002 (i + 1)))
theorem up_zg (f : Nat → zS) (i : Nat) (v : zS) : upd (fun k => zs (f k)) i (zs v) = fun k => zs (zup f i v k) := by
  funext k
  unfold upd zup
  by_cases h : k = i
  · rw [if_pos h, if_pos h]
  · rw [if_neg h, if_neg h]
theorem zs_of {i : Nat} (h : i < 2002) : nI i = zs (Fin.ofNat 2002 i) := by
  show nI i = nI (i % 2002)
  rw [Nat.mod_eq_of_lt h]
set_option maxHeartbeats 4000000 in
set_option maxRecDepth 100000 in
theorem t_Ln_init {X : xz_X} {cA : ClassId} {b q9 q10 q11 : Nat} : ∀ (n i : Nat) (f : Nat → zS), i + n = 2001 → xs X cA RX1 cX1_init 2 none R_Ln_init [(b, .inr (1, [.ref q9, .ref q10, .ref q11, .int 0, .int 0, .int 0, .int 0])), (q9, .inl (cA, 2002, .inl (fun _ => 0))), (q10, .inl (cA, 2002, .inl (fun q => zs ((mB0 n i f) q)))), (q11, .inl (cA, 2002, .inl (fun _ => 0)))] 3 6006 55 [(0, .ref b)] [] → xs X cA RX1 cX1_init 2 none R_Ln_init [(b, .inr (1, [.ref q9, .ref q10, .ref q11, .int 0, .int 0, .int 0, .int 0])), (q9, .inl (cA, 2002, .inl (fun _ => 0))), (q10, .inl (cA, 2002, .inl (fun q => zs (f q)))), (q11, .inl (cA, 2002, .inl (fun _ => 0)))] 3 6006 33 [(1, .int (nI i)), (0, .ref b)] [] := by
  intro n
  induction n with
  | zero =>
    intro i f hi kk
    refine xs_iload_n 0 dX1_init_33 rfl ?_
    refine xs_sipush (v := 2001) dX1_init_34 (by decide) ?_
    refine xs_icmp_ge (t := 55) dX1_init_37 (by decide) (fun c37 => ?_) (fun c37 => ?_)
    · exact xs_sub (L' := [(0, _)]) [1] rfl kk
    · exact absurd (show (2001 : Int32) ≤ nI i from kn_le (m := 2001) (by omega) (by omega)) c37
  | succ n ih =>
    intro i f hi kk
    refine xs_iload_n 0 dX1_init_33 rfl ?_
    refine xs_sipush (v := 2001) dX1_init_34 (by decide) ?_
    refine xs_icmp_ge (t := 55) dX1_init_37 (by decide) (fun c37 => ?_) (fun c37 => ?_)
    · exact absurd c37 (show ¬ (2001 : Int32) ≤ nI i from kn_nle (m := 2001) (by omega) (by decide))
    · refine xs_aload_n 1 dX1_init_40 rfl ?_
      refine xs_get (C := RX1) (T := TX1) (N := 7) 0 1 dX1_init_41 rfl rfl (xt_u iX1) (by decide) fl_Ln_behind rfl rfl ?_
      refine xs_iload_n 0 dX1_init_44 rfl ?_
      refine xs_iload_n 0 dX1_init_45 rfl ?_
      refine xs_iconst (v := 1) dX1_init_46 (by decide) ?_
      refine xs_iadd dX1_init_47 ?_
      refine xs_top ((nI_1 i).trans (zs_of (by omega))) ?_
      refine xs_iast (N := 2002) (w1 := [(b, .inr (1, [.ref q9, .ref q10, .ref q11, .int 0, .int 0, .int 0, .int 0])), (q9, .inl (cA, 2002, .inl (fun _ => 0))), (q10, .inl (cA, 2002, .inl (fun q => zs ((zup f i (Fin.ofNat 2002 (i + 1))) q)))), (q11, .inl (cA, 2002, .inl (fun _ => 0)))]) 2 dX1_init_48 rfl (vp_in_nI (show i < 2002 by omega) (by decide)) (by rw [nI_clamp (by omega), up_zg]; rfl) ?_
      refine xs_iinc_n (L' := [(1, _), (0, _)]) 0 dX1_init_49 rfl (by decide) rfl ?_
      refine xs_goto (t := 33) dX1_init_52 (by decide) ?_
      exact ih (i + 1) _ (by omega) kk
set_option maxHeartbeats 4000000 in
set_option maxRecDepth 100000 in
theorem c_Ln_init (cA : ClassId) (b : Nat) : xctC cA yX1_init cX1_init 2 R_Ln_init [.ref b] [(b, .inr (1, [.null, .null, .null, .int 0, .int 0, .int 0, .int 0]))] (fun ad => [(b, .inr (1, [.ref (ad 9), .ref (ad 10), .ref (ad 11), .int 0, .int 0, .int 0, .int 1])), (ad 9, .inl (cA, 2002, .inl (fun _ => 0))), (ad 10, .inl (cA, 2002, .inl (fun q => zs ((mB0 2000 1 (fun _ => 0)) q)))), (ad 11, .inl (cA, 2002, .inl (fun _ => 0)))]) := by
  refine xctC_of (own := RX1) (by decide) rfl rfl (Nat.le_of_ble_eq_true rfl) (fun X hX hI => ?_)
  show xs X cA RX1 cX1_init 2 none R_Ln_init [(b, .inr (1, [.null, .null, .null, .int 0, .int 0, .int 0, .int 0]))] 0 0 0 [(0, .ref b)] []
  refine xs_aload_n 0 dX1_init_0 rfl ?_
  refine xs_objInit dX1_init_1 oi_X1 oi_inst oi_code (Nat.le_of_ble_eq_true rfl) (Nat.le_of_ble_eq_true rfl) ?_
  refine xs_aload_n 0 dX1_init_4 rfl ?_
  refine xs_sipush (v := 2002) dX1_init_5 (by decide) ?_
  refine xs_newa (N := 2002) dX1_init_8 ac_int (by decide) (by decide) (by decide) (Nat.le_of_ble_eq_true rfl) (Nat.le_of_ble_eq_true rfl) (fun q8 => ?_)
  refine xs_ws (w1 := [(b, .inr (1, [.null, .null, .null, .int 0, .int 0, .int 0, .int 0])), (q8, .inl (cA, 2002, .inl (fun _ => 0)))]) rfl ?_
  refine xs_putF (ty := .array .int) (w1 := [(b, .inr (1, [.ref q8, .null, .null, .int 0, .int 0, .int 0, .int 0])), (q8, .inl (cA, 2002, .inl (fun _ => 0)))]) 0 0 tyX1 hI dX1_init_10 rfl rfl (xt_u iX1) tyX1_ok nmX1 (by decide) fl_Ln_before rfl rfl rfl (by decide +kernel) rfl rfl (Nat.le_of_ble_eq_true rfl) rfl ?_
  refine xs_aload_n 0 dX1_init_13 rfl ?_
  refine xs_sipush (v := 2002) dX1_init_14 (by decide) ?_
  refine xs_newa (N := 2002) dX1_init_17 ac_int (by decide) (by decide) (by decide) (Nat.le_of_ble_eq_true rfl) (Nat.le_of_ble_eq_true rfl) (fun q17 => ?_)
  refine xs_ws (w1 := [(b, .inr (1, [.ref q8, .null, .null, .int 0, .int 0, .int 0, .int 0])), (q8, .inl (cA, 2002, .inl (fun _ => 0))), (q17, .inl (cA, 2002, .inl (fun _ => 0)))]) rfl ?_
  refine xs_putF (ty := .array .int) (w1 := [(b, .inr (1, [.ref q8, .ref q17, .null, .int 0, .int 0, .int 0, .int 0])), (q8, .inl (cA, 2002, .inl (fun _ => 0))), (q17, .inl (cA, 2002, .inl (fun _ => 0)))]) 0 1 tyX1 hI dX1_init_19 rfl rfl (xt_u iX1) tyX1_ok nmX1 (by decide) fl_Ln_behind rfl rfl rfl (by decide +kernel) rfl rfl (Nat.le_of_ble_eq_true rfl) rfl ?_
  refine xs_aload_n 0 dX1_init_22 rfl ?_
  refine xs_sipush (v := 2002) dX1_init_23 (by decide) ?_
  refine xs_newa (N := 2002) dX1_init_26 ac_int (by decide) (by decide) (by decide) (Nat.le_of_ble_eq_true rfl) (Nat.le_of_ble_eq_true rfl) (fun q26 => ?_)
  refine xs_ws (w1 := [(b, .inr (1, [.ref q8, .ref q17, .null, .int 0, .int 0, .int 0, .int 0])), (q8, .inl (cA, 2002, .inl (fun _ => 0))), (q17, .inl (cA, 2002, .inl (fun _ => 0))), (q26, .inl (cA, 2002, .inl (fun _ => 0)))]) rfl ?_
  refine xs_putF (ty := .array .int) (w1 := [(b, .inr (1, [.ref q8, .ref q17, .ref q26, .int 0, .int 0, .int 0, .int 0])), (q8, .inl (cA, 2002, .inl (fun _ => 0))), (q17, .inl (cA, 2002, .inl (fun _ => 0))), (q26, .inl (cA, 2002, .inl (fun _ => 0)))]) 0 2 tyX1 hI dX1_init_28 rfl rfl (xt_u iX1) tyX1_ok nmX1 (by decide) fl_Ln_ranks rfl rfl rfl (by decide +kernel) rfl rfl (Nat.le_of_ble_eq_true rfl) rfl ?_
  refine xs_ws (w1 := [(b, .inr (1, [.ref q8, .ref q17, .ref q26, .int 0, .int 0, .int 0, .int 0])), (q8, .inl (cA, 2002, .inl (fun _ => 0))), (q17, .inl (cA, 2002, .inl (fun q => zs ((fun _ => 0) q)))), (q26, .inl (cA, 2002, .inl (fun _ => 0)))]) rfl ?_
  refine xs_iconst (v := nI 1) dX1_init_31 rfl ?_
  refine xs_istore_n (L' := [(1, _), (0, _)]) dX1_init_32 (by decide) rfl ?_
  refine t_Ln_init 2000 1 _ (by decide) ?_
  refine xs_aload_n 0 dX1_init_55 rfl ?_
  refine xs_iconst (v := 0) dX1_init_56 (by decide) ?_
  refine xs_put (ty := .int) (w1 := [(b, .inr (1, [.ref q8, .ref q17, .ref q26, .int 0, .int 0, .int 0, .int 0])), (q8, .inl (cA, 2002, .inl (fun _ => 0))), (q17, .inl (cA, 2002, .inl (fun q => zs ((mB0 2000 1 (fun _ => 0)) q)))), (q26, .inl (cA, 2002, .inl (fun _ => 0)))]) 0 3 tyX1 dX1_init_57 rfl rfl (xt_u iX1) tyX1_ok nmX1 (by decide) fl_Ln_first rfl rfl (by decide +kernel) rfl rfl (Nat.le_of_ble_eq_true rfl) rfl ?_
  refine xs_aload_n 0 dX1_init_60 rfl ?_
  refine xs_iconst (v := 0) dX1_init_61 (by decide) ?_
  refine xs_put (ty := .int) (w1 := [(b, .inr (1, [.ref q8, .ref q17, .ref q26, .int 0, .int 0, .int 0, .int 0])), (q8, .inl (cA, 2002, .inl (fun _ => 0))), (q17, .inl (cA, 2002, .inl (fun q => zs ((mB0 2000 1 (fun _ => 0)) q)))), (q26, .inl (cA, 2002, .inl (fun _ => 0)))]) 0 4 tyX1 dX1_init_62 rfl rfl (xt_u iX1) tyX1_ok nmX1 (by decide) fl_Ln_last rfl rfl (by decide +kernel) rfl rfl (Nat.le_of_ble_eq_true rfl) rfl ?_
  refine xs_aload_n 0 dX1_init_65 rfl ?_
  refine xs_iconst (v := 0) dX1_init_66 (by decide) ?_
  refine xs_put (ty := .int) (w1 := [(b, .inr (1, [.ref q8, .ref q17, .ref q26, .int 0, .int 0, .int 0, .int 0])), (q8, .inl (cA, 2002, .inl (fun _ => 0))), (q17, .inl (cA, 2002, .inl (fun q => zs ((mB0 2000 1 (fun _ => 0)) q)))), (q26, .inl (cA, 2002, .inl (fun _ => 0)))]) 0 5 tyX1 dX1_init_67 rfl rfl (xt_u iX1) tyX1_ok nmX1 (by decide) fl_Ln_count rfl rfl (by decide +kernel) rfl rfl (Nat.le_of_ble_eq_true rfl) rfl ?_
  refine xs_aload_n 0 dX1_init_70 rfl ?_
  refine xs_iconst (v := 1) dX1_init_71 (by decide) ?_
  refine xs_put (ty := .int) (w1 := [(b, .inr (1, [.ref q8, .ref q17, .ref q26, .int 0, .int 0, .int 0, .int 1])), (q8, .inl (cA, 2002, .inl (fun _ => 0))), (q17, .inl (cA, 2002, .inl (fun q => zs ((mB0 2000 1 (fun _ => 0)) q)))), (q26, .inl (cA, 2002, .inl (fun _ => 0)))]) 0 6 tyX1 dX1_init_72 rfl rfl (xt_u iX1) tyX1_ok nmX1 (by decide) fl_Ln_free rfl rfl (by decide +kernel) rfl rfl (Nat.le_of_ble_eq_true rfl) rfl ?_
  exact xs_vretC (zup (zup (zup (fun _ => 0) 9 q8) 10 q17) 11 q26) hX rfl dX1_init_75 rfl
set_option maxRecDepth 100000 in
theorem nl_X0_X2 : Cond.classLink RX0 9 RX2 ∈ xt_tbl := xt_of (by decide +kernel) rfl
set_option maxRecDepth 100000 in
theorem ni_X2 : Cond.instantiable RX2 5 ∈ xt_tbl := xt_of (by decide +kernel) rfl
set_option maxRecDepth 100000 in
theorem nz_X2 : Cond.initialized RX2 ∈ xt_tbl := xt_of (by decide +kernel) rfl
set_option maxRecDepth 100000 in
theorem kI_X0_X2 : xwI RX0 11 yX2_init cX2_init 1 := ⟨⟨xt_of (List.mem_of_getElem? (i := 67) rfl) rfl, xt_of (by decide +kernel) rfl, xt_of (by decide +kernel) rfl, by decide +kernel⟩, xt_of (by decide +kernel) rfl, rfl⟩
set_option maxHeartbeats 4000000 in
set_option maxRecDepth 100000 in
theorem c_Bi_init (cA : ClassId) (b : Nat) : xctC cA yX0_init cX0_init 1 R_Bi_init [.ref b] [(b, .inr (0, [.null, .null, .null, .null, .null, .int 0, .int 0]))] (fun ad => [(ad 4, .inr (2, [.ref (ad 12), .ref (ad 13), .ref (ad 14), .ref (ad 15), .ref (ad 16)])), (ad 12, .inl (cA, 2002, .inl (fun _ => 0))), (ad 13, .inl (cA, 2002, .inl (fun _ => 0))), (ad 14, .inl (cA, 2002, .inl (fun _ => 0))), (ad 15, .inl (cA, 2002, .inl (fun _ => 0))), (ad 16, .inl (cA, 40, .inl (fun _ => 0))), (b, .inr (0, [.ref (ad 4), .ref (ad 5), .ref (ad 6), .ref (ad 7), .ref (ad 8), .int 16, .int 0])), (ad 5, .inl (cA, 2002, .inl (fun _ => 0))), (ad 6, .inl (cA, 2002, .inl (fun _ => 0))), (ad 7, .inl (cA, 4096, .inl (fun _ => 0))), (ad 8, .inl (cA, 4096, .inl (fun _ => 0)))]) := by
  refine xctC_of (own := RX0) (by decide) rfl rfl (Nat.le_of_ble_eq_true rfl) (fun X hX hI => ?_)
  show xs X cA RX0 cX0_init 1 none R_Bi_init [(b, .inr (0, [.null, .null, .null, .null, .null, .int 0, .int 0]))] 0 0 0 [(0, .ref b)] []
  refine xs_aload_n 0 dX0_init_0 rfl ?_
  refine xs_objInit dX0_init_1 oi_X0 oi_inst oi_code (Nat.le_of_ble_eq_true rfl) (Nat.le_of_ble_eq_true rfl) ?_
  refine xs_aload_n 0 dX0_init_4 rfl ?_
  refine xs_new (ci := 2) (fs := [.null, .null, .null, .null, .null]) tyX2 dX0_init_5 (xt_u iX2) tyX2_ok nl_X0_X2 ni_X2 nz_X2 rfl (fun j hj => by rcases (show j = 0 ∨ j = 1 ∨ j = 2 ∨ j = 3 ∨ j = 4 by omega) with rfl | rfl | rfl | rfl | rfl <;> rfl) (Nat.le_of_ble_eq_true rfl) (Nat.le_of_ble_eq_true rfl) (fun q5 => ?_)
  refine xs_dup dX0_init_8 rfl ?_
  refine xs_swap ?_
  refine xs_callC (c_Tr_init cA q5) dX0_init_9 kI_X0_X2 (by decide) (Nat.le_of_ble_eq_true rfl) (by decide) (fun q5a => ?_)
  refine xs_ws (w1 := [(q5, .inr (2, [.ref (q5a 12), .ref (q5a 13), .ref (q5a 14), .ref (q5a 15), .ref (q5a 16)])), (q5a 12, .inl (cA, 2002, .inl (fun _ => 0))), (q5a 13, .inl (cA, 2002, .inl (fun _ => 0))), (q5a 14, .inl (cA, 2002, .inl (fun _ => 0))), (q5a 15, .inl (cA, 2002, .inl (fun _ => 0))), (q5a 16, .inl (cA, 40, .inl (fun _ => 0))), (b, .inr (0, [.null, .null, .null, .null, .null, .int 0, .int 0]))]) rfl ?_
  refine xs_putF (ty := .object "BinMap$Trees") (w1 := [(q5, .inr (2, [.ref (q5a 12), .ref (q5a 13), .ref (q5a 14), .ref (q5a 15), .ref (q5a 16)])), (q5a 12, .inl (cA, 2002, .inl (fun _ => 0))), (q5a 13, .inl (cA, 2002, .inl (fun _ => 0))), (q5a 14, .inl (cA, 2002, .inl (fun _ => 0))), (q5a 15, .inl (cA, 2002, .inl (fun _ => 0))), (q5a 16, .inl (cA, 40, .inl (fun _ => 0))), (b, .inr (0, [.ref q5, .null, .null, .null, .null, .int 0, .int 0]))]) 6 0 tyX0 hI dX0_init_12 rfl rfl (xt_u iX0) tyX0_ok nmX0 (by decide) fl_Bi_trees rfl rfl rfl (by decide +kernel) rfl rfl (Nat.le_of_ble_eq_true rfl) rfl ?_
  refine xs_aload_n 0 dX0_init_15 rfl ?_
  refine xs_sipush (v := 2002) dX0_init_16 (by decide) ?_
  refine xs_newa (N := 2002) dX0_init_19 ac_int (by decide) (by decide) (by decide) (Nat.le_of_ble_eq_true rfl) (Nat.le_of_ble_eq_true rfl) (fun q19 => ?_)
  refine xs_ws (w1 := [(q5, .inr (2, [.ref (q5a 12), .ref (q5a 13), .ref (q5a 14), .ref (q5a 15), .ref (q5a 16)])), (q5a 12, .inl (cA, 2002, .inl (fun _ => 0))), (q5a 13, .inl (cA, 2002, .inl (fun _ => 0))), (q5a 14, .inl (cA, 2002, .inl (fun _ => 0))), (q5a 15, .inl (cA, 2002, .inl (fun _ => 0))), (q5a 16, .inl (cA, 40, .inl (fun _ => 0))), (b, .inr (0, [.ref q5, .null, .null, .null, .null, .int 0, .int 0])), (q19, .inl (cA, 2002, .inl (fun _ => 0)))]) rfl ?_
  refine xs_putF (ty := .array .int) (w1 := [(q5, .inr (2, [.ref (q5a 12), .ref (q5a 13), .ref (q5a 14), .ref (q5a 15), .ref (q5a 16)])), (q5a 12, .inl (cA, 2002, .inl (fun _ => 0))), (q5a 13, .inl (cA, 2002, .inl (fun _ => 0))), (q5a 14, .inl (cA, 2002, .inl (fun _ => 0))), (q5a 15, .inl (cA, 2002, .inl (fun _ => 0))), (q5a 16, .inl (cA, 40, .inl (fun _ => 0))), (b, .inr (0, [.ref q5, .ref q19, .null, .null, .null, .int 0, .int 0])), (q19, .inl (cA, 2002, .inl (fun _ => 0)))]) 6 1 tyX0 hI dX0_init_21 rfl rfl (xt_u iX0) tyX0_ok nmX0 (by decide) fl_Bi_next rfl rfl rfl (by decide +kernel) rfl rfl (Nat.le_of_ble_eq_true rfl) rfl ?_
  refine xs_aload_n 0 dX0_init_24 rfl ?_
  refine xs_sipush (v := 2002) dX0_init_25 (by decide) ?_
  refine xs_newa (N := 2002) dX0_init_28 ac_int (by decide) (by decide) (by decide) (Nat.le_of_ble_eq_true rfl) (Nat.le_of_ble_eq_true rfl) (fun q28 => ?_)
  refine xs_ws (w1 := [(q5, .inr (2, [.ref (q5a 12), .ref (q5a 13), .ref (q5a 14), .ref (q5a 15), .ref (q5a 16)])), (q5a 12, .inl (cA, 2002, .inl (fun _ => 0))), (q5a 13, .inl (cA, 2002, .inl (fun _ => 0))), (q5a 14, .inl (cA, 2002, .inl (fun _ => 0))), (q5a 15, .inl (cA, 2002, .inl (fun _ => 0))), (q5a 16, .inl (cA, 40, .inl (fun _ => 0))), (b, .inr (0, [.ref q5, .ref q19, .null, .null, .null, .int 0, .int 0])), (q19, .inl (cA, 2002, .inl (fun _ => 0))), (q28, .inl (cA, 2002, .inl (fun _ => 0)))]) rfl ?_
  refine xs_putF (ty := .array .int) (w1 := [(q5, .inr (2, [.ref (q5a 12), .ref (q5a 13), .ref (q5a 14), .ref (q5a 15), .ref (q5a 16)])), (q5a 12, .inl (cA, 2002, .inl (fun _ => 0))), (q5a 13, .inl (cA, 2002, .inl (fun _ => 0))), (q5a 14, .inl (cA, 2002, .inl (fun _ => 0))), (q5a 15, .inl (cA, 2002, .inl (fun _ => 0))), (q5a 16, .inl (cA, 40, .inl (fun _ => 0))), (b, .inr (0, [.ref q5, .ref q19, .ref q28, .null, .null, .int 0, .int 0])), (q19, .inl (cA, 2002, .inl (fun _ => 0))), (q28, .inl (cA, 2002, .inl (fun _ => 0)))]) 6 2 tyX0 hI dX0_init_30 rfl rfl (xt_u iX0) tyX0_ok nmX0 (by decide) fl_Bi_previous rfl rfl rfl (by decide +kernel) rfl rfl (Nat.le_of_ble_eq_true rfl) rfl ?_
  refine xs_aload_n 0 dX0_init_33 rfl ?_
  refine xs_sipush (v := 4096) dX0_init_34 (by decide) ?_
  refine xs_newa (N := 4096) dX0_init_37 ac_int (by decide) (by decide) (by decide) (Nat.le_of_ble_eq_true rfl) (Nat.le_of_ble_eq_true rfl) (fun q37 => ?_)
  refine xs_ws (w1 := [(q5, .inr (2, [.ref (q5a 12), .ref (q5a 13), .ref (q5a 14), .ref (q5a 15), .ref (q5a 16)])), (q5a 12, .inl (cA, 2002, .inl (fun _ => 0))), (q5a 13, .inl (cA, 2002, .inl (fun _ => 0))), (q5a 14, .inl (cA, 2002, .inl (fun _ => 0))), (q5a 15, .inl (cA, 2002, .inl (fun _ => 0))), (q5a 16, .inl (cA, 40, .inl (fun _ => 0))), (b, .inr (0, [.ref q5, .ref q19, .ref q28, .null, .null, .int 0, .int 0])), (q19, .inl (cA, 2002, .inl (fun _ => 0))), (q28, .inl (cA, 2002, .inl (fun _ => 0))), (q37, .inl (cA, 4096, .inl (fun _ => 0)))]) rfl ?_
  refine xs_putF (ty := .array .int) (w1 := [(q5, .inr (2, [.ref (q5a 12), .ref (q5a 13), .ref (q5a 14), .ref (q5a 15), .ref (q5a 16)])), (q5a 12, .inl (cA, 2002, .inl (fun _ => 0))), (q5a 13, .inl (cA, 2002, .inl (fun _ => 0))), (q5a 14, .inl (cA, 2002, .inl (fun _ => 0))), (q5a 15, .inl (cA, 2002, .inl (fun _ => 0))), (q5a 16, .inl (cA, 40, .inl (fun _ => 0))), (b, .inr (0, [.ref q5, .ref q19, .ref q28, .ref q37, .null, .int 0, .int 0])), (q19, .inl (cA, 2002, .inl (fun _ => 0))), (q28, .inl (cA, 2002, .inl (fun _ => 0))), (q37, .inl (cA, 4096, .inl (fun _ => 0)))]) 6 3 tyX0 hI dX0_init_39 rfl rfl (xt_u iX0) tyX0_ok nmX0 (by decide) fl_Bi_heads rfl rfl rfl (by decide +kernel) rfl rfl (Nat.le_of_ble_eq_true rfl) rfl ?_
  refine xs_aload_n 0 dX0_init_42 rfl ?_
  refine xs_sipush (v := 4096) dX0_init_43 (by decide) ?_
  refine xs_newa (N := 4096) dX0_init_46 ac_int (by decide) (by decide) (by decide) (Nat.le_of_ble_eq_true rfl) (Nat.le_of_ble_eq_true rfl) (fun q46 => ?_)
  refine xs_ws (w1 := [(q5, .inr (2, [.ref (q5a 12), .ref (q5a 13), .ref (q5a 14), .ref (q5a 15), .ref (q5a 16)])), (q5a 12, .inl (cA, 2002, .inl (fun _ => 0))), (q5a 13, .inl (cA, 2002, .inl (fun _ => 0))), (q5a 14, .inl (cA, 2002, .inl (fun _ => 0))), (q5a 15, .inl (cA, 2002, .inl (fun _ => 0))), (q5a 16, .inl (cA, 40, .inl (fun _ => 0))), (b, .inr (0, [.ref q5, .ref q19, .ref q28, .ref q37, .null, .int 0, .int 0])), (q19, .inl (cA, 2002, .inl (fun _ => 0))), (q28, .inl (cA, 2002, .inl (fun _ => 0))), (q37, .inl (cA, 4096, .inl (fun _ => 0))), (q46, .inl (cA, 4096, .inl (fun _ => 0)))]) rfl ?_
  refine xs_putF (ty := .array .int) (w1 := [(q5, .inr (2, [.ref (q5a 12), .ref (q5a 13), .ref (q5a 14), .ref (q5a 15), .ref (q5a 16)])), (q5a 12, .inl (cA, 2002, .inl (fun _ => 0))), (q5a 13, .inl (cA, 2002, .inl (fun _ => 0))), (q5a 14, .inl (cA, 2002, .inl (fun _ => 0))), (q5a 15, .inl (cA, 2002, .inl (fun _ => 0))), (q5a 16, .inl (cA, 40, .inl (fun _ => 0))), (b, .inr (0, [.ref q5, .ref q19, .ref q28, .ref q37, .ref q46, .int 0, .int 0])), (q19, .inl (cA, 2002, .inl (fun _ => 0))), (q28, .inl (cA, 2002, .inl (fun _ => 0))), (q37, .inl (cA, 4096, .inl (fun _ => 0))), (q46, .inl (cA, 4096, .inl (fun _ => 0)))]) 6 4 tyX0 hI dX0_init_48 rfl rfl (xt_u iX0) tyX0_ok nmX0 (by decide) fl_Bi_roots rfl rfl rfl (by decide +kernel) rfl rfl (Nat.le_of_ble_eq_true rfl) rfl ?_
  refine xs_aload_n 0 dX0_init_51 rfl ?_
  refine xs_bipush (v := 16) dX0_init_52 (by decide) ?_
  refine xs_put (ty := .int) (w1 := [(q5, .inr (2, [.ref (q5a 12), .ref (q5a 13), .ref (q5a 14), .ref (q5a 15), .ref (q5a 16)])), (q5a 12, .inl (cA, 2002, .inl (fun _ => 0))), (q5a 13, .inl (cA, 2002, .inl (fun _ => 0))), (q5a 14, .inl (cA, 2002, .inl (fun _ => 0))), (q5a 15, .inl (cA, 2002, .inl (fun _ => 0))), (q5a 16, .inl (cA, 40, .inl (fun _ => 0))), (b, .inr (0, [.ref q5, .ref q19, .ref q28, .ref q37, .ref q46, .int 16, .int 0])), (q19, .inl (cA, 2002, .inl (fun _ => 0))), (q28, .inl (cA, 2002, .inl (fun _ => 0))), (q37, .inl (cA, 4096, .inl (fun _ => 0))), (q46, .inl (cA, 4096, .inl (fun _ => 0)))]) 6 5 tyX0 dX0_init_54 rfl rfl (xt_u iX0) tyX0_ok nmX0 (by decide) fl_Bi_room rfl rfl (by decide +kernel) rfl rfl (Nat.le_of_ble_eq_true rfl) rfl ?_
  refine xs_aload_n 0 dX0_init_57 rfl ?_
  refine xs_iconst (v := 0) dX0_init_58 (by decide) ?_
  refine xs_put (ty := .int) (w1 := [(q5, .inr (2, [.ref (q5a 12), .ref (q5a 13), .ref (q5a 14), .ref (q5a 15), .ref (q5a 16)])), (q5a 12, .inl (cA, 2002, .inl (fun _ => 0))), (q5a 13, .inl (cA, 2002, .inl (fun _ => 0))), (q5a 14, .inl (cA, 2002, .inl (fun _ => 0))), (q5a 15, .inl (cA, 2002, .inl (fun _ => 0))), (q5a 16, .inl (cA, 40, .inl (fun _ => 0))), (b, .inr (0, [.ref q5, .ref q19, .ref q28, .ref q37, .ref q46, .int 16, .int 0])), (q19, .inl (cA, 2002, .inl (fun _ => 0))), (q28, .inl (cA, 2002, .inl (fun _ => 0))), (q37, .inl (cA, 4096, .inl (fun _ => 0))), (q46, .inl (cA, 4096, .inl (fun _ => 0)))]) 6 6 tyX0 dX0_init_59 rfl rfl (xt_u iX0) tyX0_ok nmX0 (by decide) fl_Bi_function rfl rfl (by decide +kernel) rfl rfl (Nat.le_of_ble_eq_true rfl) rfl ?_
  exact xs_vretC (zup (zup (zup (zup (zup q5a 4 q5) 5 q19) 6 q28) 7 q37) 8 q46) hX rfl dX0_init_62 rfl
/-- a new one -/
def s00 : zT := (fun r => match r with
  | 1 => mB0 2000 1 (fun _ => 0)
  | 9 => fun i => match i with
    | 2 => 1
    | _ => 0
  | _ => fun _ => 0, fun r => match r with
  | 4 => fun i => match i with
    | 3 => 16
    | _ => 0
  | _ => fun _ => 0)
set_option maxRecDepth 100000 in
theorem nl_X3_X0 : Cond.classLink RX3 9 RX0 ∈ xt_tbl := xt_of (by decide +kernel) rfl
set_option maxRecDepth 100000 in
theorem ni_X0 : Cond.instantiable RX0 7 ∈ xt_tbl := xt_of (by decide +kernel) rfl
set_option maxRecDepth 100000 in
theorem nz_X0 : Cond.initialized RX0 ∈ xt_tbl := xt_of (by decide +kernel) rfl
set_option maxRecDepth 100000 in
theorem kI_X3_X0 : xwI RX3 11 yX0_init cX0_init 1 := ⟨⟨xt_of (List.mem_of_getElem? (i := 61) rfl) rfl, xt_of (by decide +kernel) rfl, xt_of (by decide +kernel) rfl, by decide +kernel⟩, xt_of (by decide +kernel) rfl, rfl⟩
set_option maxRecDepth 100000 in
theorem nl_X3_X1 : Cond.classLink RX3 16 RX1 ∈ xt_tbl := xt_of (by decide +kernel) rfl
set_option maxRecDepth 100000 in
theorem ni_X1 : Cond.instantiable RX1 7 ∈ xt_tbl := xt_of (by decide +kernel) rfl
set_option maxRecDepth 100000 in
theorem nz_X1 : Cond.initialized RX1 ∈ xt_tbl := xt_of (by decide +kernel) rfl
set_option maxRecDepth 100000 in
theorem kI_X3_X1 : xwI RX3 18 yX1_init cX1_init 2 := ⟨⟨xt_of (List.mem_of_getElem? (i := 112) rfl) rfl, xt_of (by decide +kernel) rfl, xt_of (by decide +kernel) rfl, by decide +kernel⟩, xt_of (by decide +kernel) rfl, rfl⟩
set_option maxHeartbeats 4000000 in
set_option maxRecDepth 100000 in
theorem c_BM_init (cA : ClassId) (b : Nat) : xctC cA yX3_init cX3_init 1 R_BM_init [.ref b] [(b, .inr (3, [.null, .null, .null, .int 0, .int 0]))] (fun ad => wd (zup ad 0 b) cA s00) := by
  refine xctC_of (own := RX3) (by decide) rfl rfl (Nat.le_of_ble_eq_true rfl) (fun X hX hI => ?_)
  show xs X cA RX3 cX3_init 1 none R_BM_init [(b, .inr (3, [.null, .null, .null, .int 0, .int 0]))] 0 0 0 [(0, .ref b)] []
  refine xs_aload_n 0 dX3_init_0 rfl ?_
  refine xs_objInit dX3_init_1 oi_X3 oi_inst oi_code (Nat.le_of_ble_eq_true rfl) (Nat.le_of_ble_eq_true rfl) ?_
  refine xs_aload_n 0 dX3_init_4 rfl ?_
  refine xs_new (ci := 0) (fs := [.null, .null, .null, .null, .null, .int 0, .int 0]) tyX0 dX3_init_5 (xt_u iX0) tyX0_ok nl_X3_X0 ni_X0 nz_X0 rfl (fun j hj => by rcases (show j = 0 ∨ j = 1 ∨ j = 2 ∨ j = 3 ∨ j = 4 ∨ j = 5 ∨ j = 6 by omega) with rfl | rfl | rfl | rfl | rfl | rfl | rfl <;> rfl) (Nat.le_of_ble_eq_true rfl) (Nat.le_of_ble_eq_true rfl) (fun q5 => ?_)
  refine xs_dup dX3_init_8 rfl ?_
  refine xs_swap ?_
  refine xs_callC (c_Bi_init cA q5) dX3_init_9 kI_X3_X0 (by decide) (Nat.le_of_ble_eq_true rfl) (by decide) (fun q5a => ?_)
  refine xs_ws (w1 := [(q5a 4, .inr (2, [.ref (q5a 12), .ref (q5a 13), .ref (q5a 14), .ref (q5a 15), .ref (q5a 16)])), (q5a 12, .inl (cA, 2002, .inl (fun _ => 0))), (q5a 13, .inl (cA, 2002, .inl (fun _ => 0))), (q5a 14, .inl (cA, 2002, .inl (fun _ => 0))), (q5a 15, .inl (cA, 2002, .inl (fun _ => 0))), (q5a 16, .inl (cA, 40, .inl (fun _ => 0))), (q5, .inr (0, [.ref (q5a 4), .ref (q5a 5), .ref (q5a 6), .ref (q5a 7), .ref (q5a 8), .int 16, .int 0])), (q5a 5, .inl (cA, 2002, .inl (fun _ => 0))), (q5a 6, .inl (cA, 2002, .inl (fun _ => 0))), (q5a 7, .inl (cA, 4096, .inl (fun _ => 0))), (q5a 8, .inl (cA, 4096, .inl (fun _ => 0))), (b, .inr (3, [.null, .null, .null, .int 0, .int 0]))]) rfl ?_
  refine xs_putF (ty := .object "BinMap$Bins") (w1 := [(q5a 4, .inr (2, [.ref (q5a 12), .ref (q5a 13), .ref (q5a 14), .ref (q5a 15), .ref (q5a 16)])), (q5a 12, .inl (cA, 2002, .inl (fun _ => 0))), (q5a 13, .inl (cA, 2002, .inl (fun _ => 0))), (q5a 14, .inl (cA, 2002, .inl (fun _ => 0))), (q5a 15, .inl (cA, 2002, .inl (fun _ => 0))), (q5a 16, .inl (cA, 40, .inl (fun _ => 0))), (q5, .inr (0, [.ref (q5a 4), .ref (q5a 5), .ref (q5a 6), .ref (q5a 7), .ref (q5a 8), .int 16, .int 0])), (q5a 5, .inl (cA, 2002, .inl (fun _ => 0))), (q5a 6, .inl (cA, 2002, .inl (fun _ => 0))), (q5a 7, .inl (cA, 4096, .inl (fun _ => 0))), (q5a 8, .inl (cA, 4096, .inl (fun _ => 0))), (b, .inr (3, [.ref q5, .null, .null, .int 0, .int 0]))]) 11 0 tyX3 hI dX3_init_12 rfl rfl (xt_u iX3) tyX3_ok nmX3 (by decide) fl_BM_bins rfl rfl rfl (by decide +kernel) rfl rfl (Nat.le_of_ble_eq_true rfl) rfl ?_
  refine xs_aload_n 0 dX3_init_15 rfl ?_
  refine xs_new (ci := 1) (fs := [.null, .null, .null, .int 0, .int 0, .int 0, .int 0]) tyX1 dX3_init_16 (xt_u iX1) tyX1_ok nl_X3_X1 ni_X1 nz_X1 rfl (fun j hj => by rcases (show j = 0 ∨ j = 1 ∨ j = 2 ∨ j = 3 ∨ j = 4 ∨ j = 5 ∨ j = 6 by omega) with rfl | rfl | rfl | rfl | rfl | rfl | rfl <;> rfl) (Nat.le_of_ble_eq_true rfl) (Nat.le_of_ble_eq_true rfl) (fun q16 => ?_)
  refine xs_dup dX3_init_19 rfl ?_
  refine xs_swap ?_
  refine xs_callC (c_Ln_init cA q16) dX3_init_20 kI_X3_X1 (by decide) (Nat.le_of_ble_eq_true rfl) (by decide) (fun q16a => ?_)
  refine xs_ws (w1 := [(q16, .inr (1, [.ref (q16a 9), .ref (q16a 10), .ref (q16a 11), .int 0, .int 0, .int 0, .int 1])), (q16a 9, .inl (cA, 2002, .inl (fun _ => 0))), (q16a 10, .inl (cA, 2002, .inl (fun q => zs ((mB0 2000 1 (fun _ => 0)) q)))), (q16a 11, .inl (cA, 2002, .inl (fun _ => 0))), (q5a 4, .inr (2, [.ref (q5a 12), .ref (q5a 13), .ref (q5a 14), .ref (q5a 15), .ref (q5a 16)])), (q5a 12, .inl (cA, 2002, .inl (fun _ => 0))), (q5a 13, .inl (cA, 2002, .inl (fun _ => 0))), (q5a 14, .inl (cA, 2002, .inl (fun _ => 0))), (q5a 15, .inl (cA, 2002, .inl (fun _ => 0))), (q5a 16, .inl (cA, 40, .inl (fun _ => 0))), (q5, .inr (0, [.ref (q5a 4), .ref (q5a 5), .ref (q5a 6), .ref (q5a 7), .ref (q5a 8), .int 16, .int 0])), (q5a 5, .inl (cA, 2002, .inl (fun _ => 0))), (q5a 6, .inl (cA, 2002, .inl (fun _ => 0))), (q5a 7, .inl (cA, 4096, .inl (fun _ => 0))), (q5a 8, .inl (cA, 4096, .inl (fun _ => 0))), (b, .inr (3, [.ref q5, .null, .null, .int 0, .int 0]))]) rfl ?_
  refine xs_putF (ty := .object "BinMap$Line") (w1 := [(q16, .inr (1, [.ref (q16a 9), .ref (q16a 10), .ref (q16a 11), .int 0, .int 0, .int 0, .int 1])), (q16a 9, .inl (cA, 2002, .inl (fun _ => 0))), (q16a 10, .inl (cA, 2002, .inl (fun q => zs ((mB0 2000 1 (fun _ => 0)) q)))), (q16a 11, .inl (cA, 2002, .inl (fun _ => 0))), (q5a 4, .inr (2, [.ref (q5a 12), .ref (q5a 13), .ref (q5a 14), .ref (q5a 15), .ref (q5a 16)])), (q5a 12, .inl (cA, 2002, .inl (fun _ => 0))), (q5a 13, .inl (cA, 2002, .inl (fun _ => 0))), (q5a 14, .inl (cA, 2002, .inl (fun _ => 0))), (q5a 15, .inl (cA, 2002, .inl (fun _ => 0))), (q5a 16, .inl (cA, 40, .inl (fun _ => 0))), (q5, .inr (0, [.ref (q5a 4), .ref (q5a 5), .ref (q5a 6), .ref (q5a 7), .ref (q5a 8), .int 16, .int 0])), (q5a 5, .inl (cA, 2002, .inl (fun _ => 0))), (q5a 6, .inl (cA, 2002, .inl (fun _ => 0))), (q5a 7, .inl (cA, 4096, .inl (fun _ => 0))), (q5a 8, .inl (cA, 4096, .inl (fun _ => 0))), (b, .inr (3, [.ref q5, .ref q16, .null, .int 0, .int 0]))]) 15 1 tyX3 hI dX3_init_23 rfl rfl (xt_u iX3) tyX3_ok nmX3 (by decide) fl_BM_line rfl rfl rfl (by decide +kernel) rfl rfl (Nat.le_of_ble_eq_true rfl) rfl ?_
  refine xs_aload_n 0 dX3_init_26 rfl ?_
  refine xs_sipush (v := 2002) dX3_init_27 (by decide) ?_
  refine xs_newa (N := 2002) dX3_init_30 ac_int (by decide) (by decide) (by decide) (Nat.le_of_ble_eq_true rfl) (Nat.le_of_ble_eq_true rfl) (fun q30 => ?_)
  refine xs_ws (w1 := [(q16, .inr (1, [.ref (q16a 9), .ref (q16a 10), .ref (q16a 11), .int 0, .int 0, .int 0, .int 1])), (q16a 9, .inl (cA, 2002, .inl (fun _ => 0))), (q16a 10, .inl (cA, 2002, .inl (fun q => zs ((mB0 2000 1 (fun _ => 0)) q)))), (q16a 11, .inl (cA, 2002, .inl (fun _ => 0))), (q5a 4, .inr (2, [.ref (q5a 12), .ref (q5a 13), .ref (q5a 14), .ref (q5a 15), .ref (q5a 16)])), (q5a 12, .inl (cA, 2002, .inl (fun _ => 0))), (q5a 13, .inl (cA, 2002, .inl (fun _ => 0))), (q5a 14, .inl (cA, 2002, .inl (fun _ => 0))), (q5a 15, .inl (cA, 2002, .inl (fun _ => 0))), (q5a 16, .inl (cA, 40, .inl (fun _ => 0))), (q5, .inr (0, [.ref (q5a 4), .ref (q5a 5), .ref (q5a 6), .ref (q5a 7), .ref (q5a 8), .int 16, .int 0])), (q5a 5, .inl (cA, 2002, .inl (fun _ => 0))), (q5a 6, .inl (cA, 2002, .inl (fun _ => 0))), (q5a 7, .inl (cA, 4096, .inl (fun _ => 0))), (q5a 8, .inl (cA, 4096, .inl (fun _ => 0))), (b, .inr (3, [.ref q5, .ref q16, .null, .int 0, .int 0])), (q30, .inl (cA, 2002, .inl (fun _ => 0)))]) rfl ?_
  refine xs_putF (ty := .array .int) (w1 := [(q16, .inr (1, [.ref (q16a 9), .ref (q16a 10), .ref (q16a 11), .int 0, .int 0, .int 0, .int 1])), (q16a 9, .inl (cA, 2002, .inl (fun _ => 0))), (q16a 10, .inl (cA, 2002, .inl (fun q => zs ((mB0 2000 1 (fun _ => 0)) q)))), (q16a 11, .inl (cA, 2002, .inl (fun _ => 0))), (q5a 4, .inr (2, [.ref (q5a 12), .ref (q5a 13), .ref (q5a 14), .ref (q5a 15), .ref (q5a 16)])), (q5a 12, .inl (cA, 2002, .inl (fun _ => 0))), (q5a 13, .inl (cA, 2002, .inl (fun _ => 0))), (q5a 14, .inl (cA, 2002, .inl (fun _ => 0))), (q5a 15, .inl (cA, 2002, .inl (fun _ => 0))), (q5a 16, .inl (cA, 40, .inl (fun _ => 0))), (q5, .inr (0, [.ref (q5a 4), .ref (q5a 5), .ref (q5a 6), .ref (q5a 7), .ref (q5a 8), .int 16, .int 0])), (q5a 5, .inl (cA, 2002, .inl (fun _ => 0))), (q5a 6, .inl (cA, 2002, .inl (fun _ => 0))), (q5a 7, .inl (cA, 4096, .inl (fun _ => 0))), (q5a 8, .inl (cA, 4096, .inl (fun _ => 0))), (b, .inr (3, [.ref q5, .ref q16, .ref q30, .int 0, .int 0])), (q30, .inl (cA, 2002, .inl (fun _ => 0)))]) 15 2 tyX3 hI dX3_init_32 rfl rfl (xt_u iX3) tyX3_ok nmX3 (by decide) fl_BM_numbers rfl rfl rfl (by decide +kernel) rfl rfl (Nat.le_of_ble_eq_true rfl) rfl ?_
  refine xs_aload_n 0 dX3_init_35 rfl ?_
  refine xs_iconst (v := 0) dX3_init_36 (by decide) ?_
  refine xs_put (ty := .int) (w1 := [(q16, .inr (1, [.ref (q16a 9), .ref (q16a 10), .ref (q16a 11), .int 0, .int 0, .int 0, .int 1])), (q16a 9, .inl (cA, 2002, .inl (fun _ => 0))), (q16a 10, .inl (cA, 2002, .inl (fun q => zs ((mB0 2000 1 (fun _ => 0)) q)))), (q16a 11, .inl (cA, 2002, .inl (fun _ => 0))), (q5a 4, .inr (2, [.ref (q5a 12), .ref (q5a 13), .ref (q5a 14), .ref (q5a 15), .ref (q5a 16)])), (q5a 12, .inl (cA, 2002, .inl (fun _ => 0))), (q5a 13, .inl (cA, 2002, .inl (fun _ => 0))), (q5a 14, .inl (cA, 2002, .inl (fun _ => 0))), (q5a 15, .inl (cA, 2002, .inl (fun _ => 0))), (q5a 16, .inl (cA, 40, .inl (fun _ => 0))), (q5, .inr (0, [.ref (q5a 4), .ref (q5a 5), .ref (q5a 6), .ref (q5a 7), .ref (q5a 8), .int 16, .int 0])), (q5a 5, .inl (cA, 2002, .inl (fun _ => 0))), (q5a 6, .inl (cA, 2002, .inl (fun _ => 0))), (q5a 7, .inl (cA, 4096, .inl (fun _ => 0))), (q5a 8, .inl (cA, 4096, .inl (fun _ => 0))), (b, .inr (3, [.ref q5, .ref q16, .ref q30, .int 0, .int 0])), (q30, .inl (cA, 2002, .inl (fun _ => 0)))]) 15 3 tyX3 dX3_init_37 rfl rfl (xt_u iX3) tyX3_ok nmX3 (by decide) fl_BM_mode rfl rfl (by decide +kernel) rfl rfl (Nat.le_of_ble_eq_true rfl) rfl ?_
  refine xs_aload_n 0 dX3_init_40 rfl ?_
  refine xs_iconst (v := 0) dX3_init_41 (by decide) ?_
  refine xs_put (ty := .int) (w1 := [(q16, .inr (1, [.ref (q16a 9), .ref (q16a 10), .ref (q16a 11), .int 0, .int 0, .int 0, .int 1])), (q16a 9, .inl (cA, 2002, .inl (fun _ => 0))), (q16a 10, .inl (cA, 2002, .inl (fun q => zs ((mB0 2000 1 (fun _ => 0)) q)))), (q16a 11, .inl (cA, 2002, .inl (fun _ => 0))), (q5a 4, .inr (2, [.ref (q5a 12), .ref (q5a 13), .ref (q5a 14), .ref (q5a 15), .ref (q5a 16)])), (q5a 12, .inl (cA, 2002, .inl (fun _ => 0))), (q5a 13, .inl (cA, 2002, .inl (fun _ => 0))), (q5a 14, .inl (cA, 2002, .inl (fun _ => 0))), (q5a 15, .inl (cA, 2002, .inl (fun _ => 0))), (q5a 16, .inl (cA, 40, .inl (fun _ => 0))), (q5, .inr (0, [.ref (q5a 4), .ref (q5a 5), .ref (q5a 6), .ref (q5a 7), .ref (q5a 8), .int 16, .int 0])), (q5a 5, .inl (cA, 2002, .inl (fun _ => 0))), (q5a 6, .inl (cA, 2002, .inl (fun _ => 0))), (q5a 7, .inl (cA, 4096, .inl (fun _ => 0))), (q5a 8, .inl (cA, 4096, .inl (fun _ => 0))), (b, .inr (3, [.ref q5, .ref q16, .ref q30, .int 0, .int 0])), (q30, .inl (cA, 2002, .inl (fun _ => 0)))]) 15 4 tyX3 dX3_init_42 rfl rfl (xt_u iX3) tyX3_ok nmX3 (by decide) fl_BM_most rfl rfl (by decide +kernel) rfl rfl (Nat.le_of_ble_eq_true rfl) rfl ?_
  refine xs_pk (ws' := wd (zup (zup (zup (zup (zup (zup (zup q5a 1 q5) 2 q16) 3 q30) 9 (q16a 9)) 10 (q16a 10)) 11 (q16a 11)) 0 b) cA s00) [15, 10, 0, 16, 4, 11, 12, 13, 14, 1, 2, 3, 5, 6, 7, 8, 9] (by decide) rfl ?_
  exact xs_vretC (zup (zup (zup (zup (zup (zup q5a 1 q5) 2 q16) 3 q30) 9 (q16a 9)) 10 (q16a 10)) 11 (q16a 11)) hX rfl dX3_init_45 rfl
def m00 : zM := (fun r => match r with
  | 4 => fun i => match i with
    | 4 => 16
    | _ => 0
  | _ => fun _ => 0, fun _ => 0, fun _ => 0, 0)
set_option maxHeartbeats 4000000 in
set_option maxRecDepth 100000 in
theorem c_Mo_init (cA : ClassId) (b : Nat) : xctC cA yX4_init cX4_init 1 R_Mo_init [.ref b] [(b, .inr (4, [.int 0, .int 0, .int 0, .int 0, .int 0, .int 0, .null, .null, .null, .null]))] (fun am => wm (zup am 0 b) cA m00) := by
  refine xctC_of (own := RX4) (by decide) rfl rfl (Nat.le_of_ble_eq_true rfl) (fun X hX hI => ?_)
  show xs X cA RX4 cX4_init 1 none R_Mo_init [(b, .inr (4, [.int 0, .int 0, .int 0, .int 0, .int 0, .int 0, .null, .null, .null, .null]))] 0 0 0 [(0, .ref b)] []
  refine xs_aload_n 0 dX4_init_0 rfl ?_
  refine xs_objInit dX4_init_1 oi_X4 oi_inst oi_code (Nat.le_of_ble_eq_true rfl) (Nat.le_of_ble_eq_true rfl) ?_
  refine xs_aload_n 0 dX4_init_4 rfl ?_
  refine xs_bipush (v := 16) dX4_init_5 (by decide) ?_
  refine xs_put (ty := .int) (w1 := [(b, .inr (4, [.int 0, .int 0, .int 0, .int 0, .int 16, .int 0, .null, .null, .null, .null]))]) 0 4 tyX4 dX4_init_7 rfl rfl (xt_u iX4) tyX4_ok nmX4 (by decide) fl_Mo_room rfl rfl (by decide +kernel) rfl rfl (Nat.le_of_ble_eq_true rfl) rfl ?_
  refine xs_aload_n 0 dX4_init_10 rfl ?_
  refine xs_sipush (v := 2000) dX4_init_11 (by decide) ?_
  refine xs_newa (N := 2000) dX4_init_14 ac_int (by decide) (by decide) (by decide) (Nat.le_of_ble_eq_true rfl) (Nat.le_of_ble_eq_true rfl) (fun q14 => ?_)
  refine xs_ws (w1 := [(b, .inr (4, [.int 0, .int 0, .int 0, .int 0, .int 16, .int 0, .null, .null, .null, .null])), (q14, .inl (cA, 2000, .inl (fun _ => 0)))]) rfl ?_
  refine xs_putF (ty := .array .int) (w1 := [(b, .inr (4, [.int 0, .int 0, .int 0, .int 0, .int 16, .int 0, .ref q14, .null, .null, .null])), (q14, .inl (cA, 2000, .inl (fun _ => 0)))]) 0 6 tyX4 hI dX4_init_16 rfl rfl (xt_u iX4) tyX4_ok nmX4 (by decide) fl_Mo_keys rfl rfl rfl (by decide +kernel) rfl rfl (Nat.le_of_ble_eq_true rfl) rfl ?_
  refine xs_aload_n 0 dX4_init_19 rfl ?_
  refine xs_sipush (v := 2000) dX4_init_20 (by decide) ?_
  refine xs_newa (N := 2000) dX4_init_23 ac_int (by decide) (by decide) (by decide) (Nat.le_of_ble_eq_true rfl) (Nat.le_of_ble_eq_true rfl) (fun q23 => ?_)
  refine xs_ws (w1 := [(b, .inr (4, [.int 0, .int 0, .int 0, .int 0, .int 16, .int 0, .ref q14, .null, .null, .null])), (q14, .inl (cA, 2000, .inl (fun _ => 0))), (q23, .inl (cA, 2000, .inl (fun _ => 0)))]) rfl ?_
  refine xs_putF (ty := .array .int) (w1 := [(b, .inr (4, [.int 0, .int 0, .int 0, .int 0, .int 16, .int 0, .ref q14, .ref q23, .null, .null])), (q14, .inl (cA, 2000, .inl (fun _ => 0))), (q23, .inl (cA, 2000, .inl (fun _ => 0)))]) 0 7 tyX4 hI dX4_init_25 rfl rfl (xt_u iX4) tyX4_ok nmX4 (by decide) fl_Mo_numbers rfl rfl rfl (by decide +kernel) rfl rfl (Nat.le_of_ble_eq_true rfl) rfl ?_
  refine xs_aload_n 0 dX4_init_28 rfl ?_
  refine xs_sipush (v := 2000) dX4_init_29 (by decide) ?_
  refine xs_newa (N := 2000) dX4_init_32 ac_int (by decide) (by decide) (by decide) (Nat.le_of_ble_eq_true rfl) (Nat.le_of_ble_eq_true rfl) (fun q32 => ?_)
  refine xs_ws (w1 := [(b, .inr (4, [.int 0, .int 0, .int 0, .int 0, .int 16, .int 0, .ref q14, .ref q23, .null, .null])), (q14, .inl (cA, 2000, .inl (fun _ => 0))), (q23, .inl (cA, 2000, .inl (fun _ => 0))), (q32, .inl (cA, 2000, .inl (fun _ => 0)))]) rfl ?_
  refine xs_putF (ty := .array .int) (w1 := [(b, .inr (4, [.int 0, .int 0, .int 0, .int 0, .int 16, .int 0, .ref q14, .ref q23, .ref q32, .null])), (q14, .inl (cA, 2000, .inl (fun _ => 0))), (q23, .inl (cA, 2000, .inl (fun _ => 0))), (q32, .inl (cA, 2000, .inl (fun _ => 0)))]) 0 8 tyX4 hI dX4_init_34 rfl rfl (xt_u iX4) tyX4_ok nmX4 (by decide) fl_Mo_order rfl rfl rfl (by decide +kernel) rfl rfl (Nat.le_of_ble_eq_true rfl) rfl ?_
  refine xs_aload_n 0 dX4_init_37 rfl ?_
  refine xs_sipush (v := 8192) dX4_init_38 (by decide) ?_
  refine xs_newa (N := 8192) dX4_init_41 ac_int (by decide) (by decide) (by decide) (Nat.le_of_ble_eq_true rfl) (Nat.le_of_ble_eq_true rfl) (fun q41 => ?_)
  refine xs_ws (w1 := [(b, .inr (4, [.int 0, .int 0, .int 0, .int 0, .int 16, .int 0, .ref q14, .ref q23, .ref q32, .null])), (q14, .inl (cA, 2000, .inl (fun _ => 0))), (q23, .inl (cA, 2000, .inl (fun _ => 0))), (q32, .inl (cA, 2000, .inl (fun _ => 0))), (q41, .inl (cA, 8192, .inl (fun _ => 0)))]) rfl ?_
  refine xs_putF (ty := .array .int) (w1 := [(b, .inr (4, [.int 0, .int 0, .int 0, .int 0, .int 16, .int 0, .ref q14, .ref q23, .ref q32, .ref q41])), (q14, .inl (cA, 2000, .inl (fun _ => 0))), (q23, .inl (cA, 2000, .inl (fun _ => 0))), (q32, .inl (cA, 2000, .inl (fun _ => 0))), (q41, .inl (cA, 8192, .inl (fun _ => 0)))]) 0 9 tyX4 hI dX4_init_43 rfl rfl (xt_u iX4) tyX4_ok nmX4 (by decide) fl_Mo_heads rfl rfl rfl (by decide +kernel) rfl rfl (Nat.le_of_ble_eq_true rfl) rfl ?_
  refine xs_ws (w1 := wm (zup (zup (zup (zup (zup (fun _ => 0) 1 q14) 2 q23) 3 q32) 4 q41) 0 b) cA m00) rfl ?_
  exact xs_vretC (zup (zup (zup (zup (fun _ => 0) 1 q14) 2 q23) 3 q32) 4 q41) hX rfl dX4_init_46 rfl
