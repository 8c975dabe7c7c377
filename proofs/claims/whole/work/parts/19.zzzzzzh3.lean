set_option maxRecDepth 100000 in
theorem kw_L_make : xwV RL 7 yX3_make cX3_make 5 (some .int) 3 := ⟨⟨xt_of (List.mem_of_getElem? (i := 309) rfl) rfl, xt_of (by decide +kernel) rfl, xt_of (by decide +kernel) rfl, by decide +kernel⟩, xt_of (by decide +kernel) rfl, xt_of (by decide +kernel) rfl⟩
set_option maxRecDepth 100000 in
theorem hcl_make : Cond.classLink RL 13 "java/lang/IllegalArgumentException" ∈ xt_tbl := xt_of (by decide +kernel) rfl
abbrev R_H_make : Room := { frames := 4, cells := 0, slots := 0, locals := 88 }
set_option maxHeartbeats 4000000 in
set_option maxRecDepth 100000 in
theorem chR_make (ad : Nat → Nat) (cA cL : ClassId) (o : Nat) (s : zT) (g : Nat → Int64) (mode : Int32) (f : Int32) (most : Int32) (h1 : mBM_isMode mode most = true) (h2 : ¬ f < 0) (h3 : f ≤ 2) : xctW cA cL yL_make cL_make 6 (some .int) [(0, 12, 15, 13)] R_H_make [.ref (ad 0), .int mode, .int f, .int most, .ref o] (wo ad cA cL o s g) (some (.int 0)) (wo ad cA cL o (mBM_make s mode f most) (vp_updL g 0 ((s.2 4 2).toInt64))) := by
  refine xctW_of (own := RL) (by decide) rfl (Nat.le_of_ble_eq_true rfl) (fun X hX hHX hty => ?_)
  show xs X cA RL cL_make 6 (some .int) R_H_make (wd ad cA s ++ [(o, .inl (cL, 1, .inr (.inl g)))]) 0 0 0 [(0, .ref (ad 0)), (1, .int mode), (2, .int f), (3, .int most), (4, .ref o)] []
  refine xs_aload 4 dL_make_0 rfl ?_
  refine xs_iconst (v := 0) dL_make_2 (by decide) ?_
  refine xs_aload_n 0 dL_make_3 rfl ?_
  refine xs_iload_n 1 dL_make_4 rfl ?_
  refine xs_iload_n 2 dL_make_5 rfl ?_
  refine xs_iload_n 3 dL_make_6 rfl ?_
  refine xs_callF 0 (c_BM_make ad cA s mode f most h1 h2 h3) rfl rfl dL_make_7 kw_L_make (by decide) rfl rfl rfl (Nat.le_of_ble_eq_true rfl) ⟨Nat.zero_le _, Nat.zero_le _⟩ ?_
  refine xs_i2l dL_make_10 ?_
  refine xs_last (N := 1) (f := g) 17 hty dL_make_11 rfl xin01 rfl ?_
  refine xs_goto (t := 19) dL_make_12 (by decide) ?_
  refine xs_iconst (v := 0) dL_make_19 (by decide) ?_
  exact xs_iret hX rfl dL_make_20 rfl rfl
abbrev RT_H_make : Room := { frames := 7, cells := 1, slots := 6, locals := 105 }
set_option maxHeartbeats 4000000 in
set_option maxRecDepth 100000 in
theorem chT_make (ad : Nat → Nat) (cA cL : ClassId) (o : Nat) (s : zT) (g : Nat → Int64) (mode : Int32) (f : Int32) (most : Int32) (h : mBM_isMode mode most = false ∨ f < 0 ∨ ¬ f ≤ 2) : xctW cA cL yL_make cL_make 6 (some .int) [(0, 12, 15, 13)] RT_H_make [.ref (ad 0), .int mode, .int f, .int most, .ref o] (wo ad cA cL o s g) (some (.int 1)) (wo ad cA cL o s g) := by
  refine xctW_of (own := RL) (by decide) rfl (Nat.le_of_ble_eq_true rfl) (fun X hX hHX hty => ?_)
  show xs X cA RL cL_make 6 (some .int) RT_H_make (wd ad cA s ++ [(o, .inl (cL, 1, .inr (.inl g)))]) 0 0 0 [(0, .ref (ad 0)), (1, .int mode), (2, .int f), (3, .int most), (4, .ref o)] []
  refine xs_aload 4 dL_make_0 rfl ?_
  refine xs_iconst (v := 0) dL_make_2 (by decide) ?_
  refine xs_aload_n 0 dL_make_3 rfl ?_
  refine xs_iload_n 1 dL_make_4 rfl ?_
  refine xs_iload_n 2 dL_make_5 rfl ?_
  refine xs_iload_n 3 dL_make_6 rfl ?_
  refine xs_callT 0 (cT_BM_make ad cA s mode f most h) hHX dL_make_7 kw_L_make (by decide) rfl rfl rfl (Nat.le_of_ble_eq_true rfl) (by decide) (by decide) (by decide) hcl_make (by decide +kernel) (fun a => ?_)
  refine xs_astore (L' := [(5, _), (0, _), (1, _), (2, _), (3, _), (4, _)]) dL_make_15 (by decide) rfl ?_
  refine xs_iconst (v := 1) dL_make_17 (by decide) ?_
  exact xs_iret hX rfl dL_make_18 rfl rfl
set_option maxRecDepth 100000 in
theorem kw_L_put : xwV RL 15 yX3_put cX3_put 5 (some .long) 2 := ⟨⟨xt_of (List.mem_of_getElem? (i := 388) rfl) rfl, xt_of (by decide +kernel) rfl, xt_of (by decide +kernel) rfl, by decide +kernel⟩, xt_of (by decide +kernel) rfl, xt_of (by decide +kernel) rfl⟩
set_option maxRecDepth 100000 in
theorem hcl_put : Cond.classLink RL 19 "java/lang/ArithmeticException" ∈ xt_tbl := xt_of (by decide +kernel) rfl
abbrev R_H_put : Room := { frames := 8, cells := 0, slots := 0, locals := 190 }
set_option maxHeartbeats 4000000 in
set_option maxRecDepth 100000 in
theorem chR_put (ad : Nat → Nat) (cA cL : ClassId) (o : Nat) (s : zT) (g : Nat → Int64) (key : Int32) (x : Int32) (hr : rok s) (hf : mBM_fits s (mBi_find s key) = true) : xctW cA cL yL_put cL_put 5 (some .int) [(0, 9, 12, 19)] R_H_put [.ref (ad 0), .int key, .int x, .ref o] (wo ad cA cL o s g) (some (.int 0)) (wo ad cA cL o ((mBM_put s key x).2) (vp_updL g 0 ((mBM_put s key x).1))) := by
  refine xctW_of (own := RL) (by decide) rfl (Nat.le_of_ble_eq_true rfl) (fun X hX hHX hty => ?_)
  show xs X cA RL cL_put 5 (some .int) R_H_put (wd ad cA s ++ [(o, .inl (cL, 1, .inr (.inl g)))]) 0 0 0 [(0, .ref (ad 0)), (1, .int key), (2, .int x), (3, .ref o)] []
  refine xs_aload_n 3 dL_put_0 rfl ?_
  refine xs_iconst (v := 0) dL_put_1 (by decide) ?_
  refine xs_aload_n 0 dL_put_2 rfl ?_
  refine xs_iload_n 1 dL_put_3 rfl ?_
  refine xs_iload_n 2 dL_put_4 rfl ?_
  refine xs_callF 0 (c_BM_put ad cA s key x hr hf) rfl rfl dL_put_5 kw_L_put (by decide) rfl rfl rfl (Nat.le_of_ble_eq_true rfl) ⟨Nat.zero_le _, Nat.zero_le _⟩ ?_
  refine xs_last (N := 1) (f := g) 17 hty dL_put_8 rfl xin01 rfl ?_
  refine xs_goto (t := 16) dL_put_9 (by decide) ?_
  refine xs_iconst (v := 0) dL_put_16 (by decide) ?_
  exact xs_iret hX rfl dL_put_17 rfl rfl
abbrev RT_H_put : Room := { frames := 8, cells := 1, slots := 6, locals := 190 }
set_option maxHeartbeats 4000000 in
set_option maxRecDepth 100000 in
theorem chT_put (ad : Nat → Nat) (cA cL : ClassId) (o : Nat) (s : zT) (g : Nat → Int64) (key : Int32) (x : Int32) (hr : rok s) (hf : mBM_fits s (mBi_find s key) = false) : xctW cA cL yL_put cL_put 5 (some .int) [(0, 9, 12, 19)] RT_H_put [.ref (ad 0), .int key, .int x, .ref o] (wo ad cA cL o s g) (some (.int 1)) (wo ad cA cL o s g) := by
  refine xctW_of (own := RL) (by decide) rfl (Nat.le_of_ble_eq_true rfl) (fun X hX hHX hty => ?_)
  show xs X cA RL cL_put 5 (some .int) RT_H_put (wd ad cA s ++ [(o, .inl (cL, 1, .inr (.inl g)))]) 0 0 0 [(0, .ref (ad 0)), (1, .int key), (2, .int x), (3, .ref o)] []
  refine xs_aload_n 3 dL_put_0 rfl ?_
  refine xs_iconst (v := 0) dL_put_1 (by decide) ?_
  refine xs_aload_n 0 dL_put_2 rfl ?_
  refine xs_iload_n 1 dL_put_3 rfl ?_
  refine xs_iload_n 2 dL_put_4 rfl ?_
  refine xs_callT 0 (cT_BM_put ad cA s key x hr hf) hHX dL_put_5 kw_L_put (by decide) rfl rfl rfl (Nat.le_of_ble_eq_true rfl) (by decide) (by decide) (by decide) hcl_put (by decide +kernel) (fun a => ?_)
  refine xs_astore (L' := [(4, _), (0, _), (1, _), (2, _), (3, _)]) dL_put_12 (by decide) rfl ?_
  refine xs_iconst (v := 1) dL_put_14 (by decide) ?_
  exact xs_iret hX rfl dL_put_15 rfl rfl
set_option maxRecDepth 100000 in
theorem kw_L_find : xwV RL 21 yX3_find cX3_find 5 (some .int) 2 := ⟨⟨xt_of (List.mem_of_getElem? (i := 513) rfl) rfl, xt_of (by decide +kernel) rfl, xt_of (by decide +kernel) rfl, by decide +kernel⟩, xt_of (by decide +kernel) rfl, xt_of (by decide +kernel) rfl⟩
set_option maxRecDepth 100000 in
theorem hcl_find : Cond.classLink RL 25 "java/util/NoSuchElementException" ∈ xt_tbl := xt_of (by decide +kernel) rfl
abbrev R_H_find : Room := { frames := 7, cells := 0, slots := 0, locals := 165 }
set_option maxHeartbeats 4000000 in
set_option maxRecDepth 100000 in
theorem chR_find (ad : Nat → Nat) (cA cL : ClassId) (o : Nat) (s : zT) (g : Nat → Int64) (key : Int32) (tk : Bool) (hr : rok s) (hf : ¬ mBi_find s key = 0) : xctW cA cL yL_find cL_find 5 (some .int) [(0, 10, 13, 25)] R_H_find [.ref (ad 0), .int key, .int (zb tk), .ref o] (wo ad cA cL o s g) (some (.int 0)) (wo ad cA cL o ((mBM_find s key tk).2) (vp_updL g 0 (((mBM_find s key tk).1).toInt64))) := by
  refine xctW_of (own := RL) (by decide) rfl (Nat.le_of_ble_eq_true rfl) (fun X hX hHX hty => ?_)
  show xs X cA RL cL_find 5 (some .int) R_H_find (wd ad cA s ++ [(o, .inl (cL, 1, .inr (.inl g)))]) 0 0 0 [(0, .ref (ad 0)), (1, .int key), (2, .int (zb tk)), (3, .ref o)] []
  refine xs_aload_n 3 dL_find_0 rfl ?_
  refine xs_iconst (v := 0) dL_find_1 (by decide) ?_
  refine xs_aload_n 0 dL_find_2 rfl ?_
  refine xs_iload_n 1 dL_find_3 rfl ?_
  refine xs_iload_n 2 dL_find_4 rfl ?_
  refine xs_callF 0 (c_BM_find ad cA s key tk hr hf) rfl rfl dL_find_5 kw_L_find (by decide) rfl rfl rfl (Nat.le_of_ble_eq_true rfl) ⟨Nat.zero_le _, Nat.zero_le _⟩ ?_
  refine xs_i2l dL_find_8 ?_
  refine xs_last (N := 1) (f := g) 17 hty dL_find_9 rfl xin01 rfl ?_
  refine xs_goto (t := 17) dL_find_10 (by decide) ?_
  refine xs_iconst (v := 0) dL_find_17 (by decide) ?_
  exact xs_iret hX rfl dL_find_18 rfl rfl
abbrev RT_H_find : Room := { frames := 7, cells := 1, slots := 6, locals := 165 }
set_option maxHeartbeats 4000000 in
set_option maxRecDepth 100000 in
theorem chT_find (ad : Nat → Nat) (cA cL : ClassId) (o : Nat) (s : zT) (g : Nat → Int64) (key : Int32) (tk : Bool) (hr : rok s) (hf : mBi_find s key = 0) : xctW cA cL yL_find cL_find 5 (some .int) [(0, 10, 13, 25)] RT_H_find [.ref (ad 0), .int key, .int (zb tk), .ref o] (wo ad cA cL o s g) (some (.int 1)) (wo ad cA cL o s g) := by
  refine xctW_of (own := RL) (by decide) rfl (Nat.le_of_ble_eq_true rfl) (fun X hX hHX hty => ?_)
  show xs X cA RL cL_find 5 (some .int) RT_H_find (wd ad cA s ++ [(o, .inl (cL, 1, .inr (.inl g)))]) 0 0 0 [(0, .ref (ad 0)), (1, .int key), (2, .int (zb tk)), (3, .ref o)] []
  refine xs_aload_n 3 dL_find_0 rfl ?_
  refine xs_iconst (v := 0) dL_find_1 (by decide) ?_
  refine xs_aload_n 0 dL_find_2 rfl ?_
  refine xs_iload_n 1 dL_find_3 rfl ?_
  refine xs_iload_n 2 dL_find_4 rfl ?_
  refine xs_callT 0 (cT_BM_find ad cA s key tk hr hf) hHX dL_find_5 kw_L_find (by decide) rfl rfl rfl (Nat.le_of_ble_eq_true rfl) (by decide) (by decide) (by decide) hcl_find (by decide +kernel) (fun a => ?_)
  refine xs_astore (L' := [(4, _), (0, _), (1, _), (2, _), (3, _)]) dL_find_13 (by decide) rfl ?_
  refine xs_iconst (v := 1) dL_find_15 (by decide) ?_
  exact xs_iret hX rfl dL_find_16 rfl rfl
set_option maxRecDepth 100000 in
theorem kw_L_fill : xwV RL 27 yX3_fill cX3_fill 7 (some .int) 3 := ⟨⟨xt_of (List.mem_of_getElem? (i := 535) rfl) rfl, xt_of (by decide +kernel) rfl, xt_of (by decide +kernel) rfl, by decide +kernel⟩, xt_of (by decide +kernel) rfl, xt_of (by decide +kernel) rfl⟩
set_option maxRecDepth 100000 in
theorem hcl_fill : Cond.classLink RL 13 "java/lang/IllegalArgumentException" ∈ xt_tbl := xt_of (by decide +kernel) rfl
abbrev R_H_fill : Room := { frames := 8, cells := 0, slots := 0, locals := 192 }
set_option maxHeartbeats 4000000 in
set_option maxRecDepth 100000 in
theorem chR_fill (ad : Nat → Nat) (cA cL : ClassId) (o : Nat) (s : zT) (g : Nat → Int64) (x : Int32) (step : Int32) (nn : Int32) (hr : rok s) (h1 : ¬ nn < 0) (h2 : nn ≤ 2000) : xctW cA cL yL_fill cL_fill 6 (some .int) [(0, 12, 15, 13)] R_H_fill [.ref (ad 0), .int x, .int step, .int nn, .ref o] (wo ad cA cL o s g) (some (.int 0)) (wo ad cA cL o (mBM_fillL step nn.toNatClampNeg 0 x s) (vp_updL g 0 (((mBM_fillL step nn.toNatClampNeg 0 x s).2 4 2).toInt64))) := by
  refine xctW_of (own := RL) (by decide) rfl (Nat.le_of_ble_eq_true rfl) (fun X hX hHX hty => ?_)
  show xs X cA RL cL_fill 6 (some .int) R_H_fill (wd ad cA s ++ [(o, .inl (cL, 1, .inr (.inl g)))]) 0 0 0 [(0, .ref (ad 0)), (1, .int x), (2, .int step), (3, .int nn), (4, .ref o)] []
  refine xs_aload 4 dL_fill_0 rfl ?_
  refine xs_iconst (v := 0) dL_fill_2 (by decide) ?_
  refine xs_aload_n 0 dL_fill_3 rfl ?_
  refine xs_iload_n 1 dL_fill_4 rfl ?_
  refine xs_iload_n 2 dL_fill_5 rfl ?_
  refine xs_iload_n 3 dL_fill_6 rfl ?_
  refine xs_callF 0 (c_BM_fill ad cA s x step nn hr h1 h2) rfl rfl dL_fill_7 kw_L_fill (by decide) rfl rfl rfl (Nat.le_of_ble_eq_true rfl) ⟨Nat.zero_le _, Nat.zero_le _⟩ ?_
  refine xs_i2l dL_fill_10 ?_
  refine xs_last (N := 1) (f := g) 17 hty dL_fill_11 rfl xin01 rfl ?_
  refine xs_goto (t := 19) dL_fill_12 (by decide) ?_
  refine xs_iconst (v := 0) dL_fill_19 (by decide) ?_
  exact xs_iret hX rfl dL_fill_20 rfl rfl
abbrev RT_H_fill : Room := { frames := 8, cells := 1, slots := 6, locals := 192 }
set_option maxHeartbeats 4000000 in
set_option maxRecDepth 100000 in
theorem chT_fill (ad : Nat → Nat) (cA cL : ClassId) (o : Nat) (s : zT) (g : Nat → Int64) (x : Int32) (step : Int32) (nn : Int32) (h : nn < 0 ∨ ¬ nn ≤ 2000) : xctW cA cL yL_fill cL_fill 6 (some .int) [(0, 12, 15, 13)] RT_H_fill [.ref (ad 0), .int x, .int step, .int nn, .ref o] (wo ad cA cL o s g) (some (.int 1)) (wo ad cA cL o s g) := by
  refine xctW_of (own := RL) (by decide) rfl (Nat.le_of_ble_eq_true rfl) (fun X hX hHX hty => ?_)
  show xs X cA RL cL_fill 6 (some .int) RT_H_fill (wd ad cA s ++ [(o, .inl (cL, 1, .inr (.inl g)))]) 0 0 0 [(0, .ref (ad 0)), (1, .int x), (2, .int step), (3, .int nn), (4, .ref o)] []
  refine xs_aload 4 dL_fill_0 rfl ?_
  refine xs_iconst (v := 0) dL_fill_2 (by decide) ?_
  refine xs_aload_n 0 dL_fill_3 rfl ?_
  refine xs_iload_n 1 dL_fill_4 rfl ?_
  refine xs_iload_n 2 dL_fill_5 rfl ?_
  refine xs_iload_n 3 dL_fill_6 rfl ?_
  refine xs_callT 0 (cT_BM_fill ad cA s x step nn h) hHX dL_fill_7 kw_L_fill (by decide) rfl rfl rfl (Nat.le_of_ble_eq_true rfl) (by decide) (by decide) (by decide) hcl_fill (by decide +kernel) (fun a => ?_)
  refine xs_astore (L' := [(5, _), (0, _), (1, _), (2, _), (3, _), (4, _)]) dL_fill_15 (by decide) rfl ?_
  refine xs_iconst (v := 1) dL_fill_17 (by decide) ?_
  exact xs_iret hX rfl dL_fill_18 rfl rfl
set_option maxRecDepth 100000 in
theorem kw_L_at : xwV RL 30 yX3_at cX3_at 4 (some .int) 1 := ⟨⟨xt_of (List.mem_of_getElem? (i := 542) rfl) rfl, xt_of (by decide +kernel) rfl, xt_of (by decide +kernel) rfl, by decide +kernel⟩, xt_of (by decide +kernel) rfl, xt_of (by decide +kernel) rfl⟩
set_option maxRecDepth 100000 in
theorem hcl_at : Cond.classLink RL 25 "java/util/NoSuchElementException" ∈ xt_tbl := xt_of (by decide +kernel) rfl
abbrev R_H_at : Room := { frames := 5, cells := 0, slots := 0, locals := 108 }
set_option maxHeartbeats 4000000 in
set_option maxRecDepth 100000 in
theorem chR_at (ad : Nat → Nat) (cA cL : ClassId) (o : Nat) (s : zT) (g : Nat → Int64) (i : Int32) (hr : rok s) (h1 : ¬ i < 0) (h2 : i < s.2 4 2) : xctW cA cL yL_at cL_at 4 (some .int) [(0, 9, 12, 25)] R_H_at [.ref (ad 0), .int i, .ref o] (wo ad cA cL o s g) (some (.int 0)) (wo ad cA cL o (s) (vp_updL g 0 ((mBM_at s i).toInt64))) := by
  refine xctW_of (own := RL) (by decide) rfl (Nat.le_of_ble_eq_true rfl) (fun X hX hHX hty => ?_)
  show xs X cA RL cL_at 4 (some .int) R_H_at (wd ad cA s ++ [(o, .inl (cL, 1, .inr (.inl g)))]) 0 0 0 [(0, .ref (ad 0)), (1, .int i), (2, .ref o)] []
  refine xs_aload_n 2 dL_at_0 rfl ?_
  refine xs_iconst (v := 0) dL_at_1 (by decide) ?_
  refine xs_aload_n 0 dL_at_2 rfl ?_
  refine xs_iload_n 1 dL_at_3 rfl ?_
  refine xs_callF 0 (c_BM_at ad cA s i hr h1 h2) rfl rfl dL_at_4 kw_L_at (by decide) rfl rfl rfl (Nat.le_of_ble_eq_true rfl) ⟨Nat.zero_le _, Nat.zero_le _⟩ ?_
  refine xs_i2l dL_at_7 ?_
  refine xs_last (N := 1) (f := g) 17 hty dL_at_8 rfl xin01 rfl ?_
  refine xs_goto (t := 15) dL_at_9 (by decide) ?_
  refine xs_iconst (v := 0) dL_at_15 (by decide) ?_
  exact xs_iret hX rfl dL_at_16 rfl rfl
abbrev RT_H_at : Room := { frames := 7, cells := 1, slots := 6, locals := 108 }
set_option maxHeartbeats 4000000 in
set_option maxRecDepth 100000 in
theorem chT_at (ad : Nat → Nat) (cA cL : ClassId) (o : Nat) (s : zT) (g : Nat → Int64) (i : Int32) (h : i < 0 ∨ ¬ i < s.2 4 2) : xctW cA cL yL_at cL_at 4 (some .int) [(0, 9, 12, 25)] RT_H_at [.ref (ad 0), .int i, .ref o] (wo ad cA cL o s g) (some (.int 1)) (wo ad cA cL o s g) := by
  refine xctW_of (own := RL) (by decide) rfl (Nat.le_of_ble_eq_true rfl) (fun X hX hHX hty => ?_)
  show xs X cA RL cL_at 4 (some .int) RT_H_at (wd ad cA s ++ [(o, .inl (cL, 1, .inr (.inl g)))]) 0 0 0 [(0, .ref (ad 0)), (1, .int i), (2, .ref o)] []
  refine xs_aload_n 2 dL_at_0 rfl ?_
  refine xs_iconst (v := 0) dL_at_1 (by decide) ?_
  refine xs_aload_n 0 dL_at_2 rfl ?_
  refine xs_iload_n 1 dL_at_3 rfl ?_
  refine xs_callT 0 (cT_BM_at ad cA s i h) hHX dL_at_4 kw_L_at (by decide) rfl rfl rfl (Nat.le_of_ble_eq_true rfl) (by decide) (by decide) (by decide) hcl_at (by decide +kernel) (fun a => ?_)
  refine xs_astore_n (L' := [(3, _), (0, _), (1, _), (2, _)]) dL_at_12 (by decide) rfl ?_
  refine xs_iconst (v := 1) dL_at_13 (by decide) ?_
  exact xs_iret hX rfl dL_at_14 rfl rfl
set_option maxRecDepth 100000 in
theorem kw_L_after : xwV RL 34 yX3_after cX3_after 4 (some .int) 1 := ⟨⟨xt_of (List.mem_of_getElem? (i := 549) rfl) rfl, xt_of (by decide +kernel) rfl, xt_of (by decide +kernel) rfl, by decide +kernel⟩, xt_of (by decide +kernel) rfl, xt_of (by decide +kernel) rfl⟩
set_option maxRecDepth 100000 in
theorem hcl_after : Cond.classLink RL 25 "java/util/NoSuchElementException" ∈ xt_tbl := xt_of (by decide +kernel) rfl
abbrev R_H_after : Room := { frames := 5, cells := 0, slots := 0, locals := 108 }
set_option maxHeartbeats 4000000 in
set_option maxRecDepth 100000 in
theorem chR_after (ad : Nat → Nat) (cA cL : ClassId) (o : Nat) (s : zT) (g : Nat → Int64) (key : Int32) (hr : rok s) (hf : ¬ mBM_after s key = 0) : xctW cA cL yL_after cL_after 4 (some .int) [(0, 9, 12, 25)] R_H_after [.ref (ad 0), .int key, .ref o] (wo ad cA cL o s g) (some (.int 0)) (wo ad cA cL o (s) (vp_updL g 0 ((s.2 0 (mBM_after s key)).toInt64))) := by
  refine xctW_of (own := RL) (by decide) rfl (Nat.le_of_ble_eq_true rfl) (fun X hX hHX hty => ?_)
  show xs X cA RL cL_after 4 (some .int) R_H_after (wd ad cA s ++ [(o, .inl (cL, 1, .inr (.inl g)))]) 0 0 0 [(0, .ref (ad 0)), (1, .int key), (2, .ref o)] []
  refine xs_aload_n 2 dL_after_0 rfl ?_
  refine xs_iconst (v := 0) dL_after_1 (by decide) ?_
  refine xs_aload_n 0 dL_after_2 rfl ?_
  refine xs_iload_n 1 dL_after_3 rfl ?_
  refine xs_callF 0 (c_BM_after ad cA s key hr hf) rfl rfl dL_after_4 kw_L_after (by decide) rfl rfl rfl (Nat.le_of_ble_eq_true rfl) ⟨Nat.zero_le _, Nat.zero_le _⟩ ?_
  refine xs_i2l dL_after_7 ?_
  refine xs_last (N := 1) (f := g) 17 hty dL_after_8 rfl xin01 rfl ?_
  refine xs_goto (t := 15) dL_after_9 (by decide) ?_
  refine xs_iconst (v := 0) dL_after_15 (by decide) ?_
  exact xs_iret hX rfl dL_after_16 rfl rfl
abbrev RT_H_after : Room := { frames := 7, cells := 1, slots := 6, locals := 108 }
set_option maxHeartbeats 4000000 in
set_option maxRecDepth 100000 in
theorem chT_after (ad : Nat → Nat) (cA cL : ClassId) (o : Nat) (s : zT) (g : Nat → Int64) (key : Int32) (hr : rok s) (hf : mBM_after s key = 0) : xctW cA cL yL_after cL_after 4 (some .int) [(0, 9, 12, 25)] RT_H_after [.ref (ad 0), .int key, .ref o] (wo ad cA cL o s g) (some (.int 1)) (wo ad cA cL o s g) := by
  refine xctW_of (own := RL) (by decide) rfl (Nat.le_of_ble_eq_true rfl) (fun X hX hHX hty => ?_)
  show xs X cA RL cL_after 4 (some .int) RT_H_after (wd ad cA s ++ [(o, .inl (cL, 1, .inr (.inl g)))]) 0 0 0 [(0, .ref (ad 0)), (1, .int key), (2, .ref o)] []
  refine xs_aload_n 2 dL_after_0 rfl ?_
  refine xs_iconst (v := 0) dL_after_1 (by decide) ?_
  refine xs_aload_n 0 dL_after_2 rfl ?_
  refine xs_iload_n 1 dL_after_3 rfl ?_
  refine xs_callT 0 (cT_BM_after ad cA s key hr hf) hHX dL_after_4 kw_L_after (by decide) rfl rfl rfl (Nat.le_of_ble_eq_true rfl) (by decide) (by decide) (by decide) hcl_after (by decide +kernel) (fun a => ?_)
  refine xs_astore_n (L' := [(3, _), (0, _), (1, _), (2, _)]) dL_after_12 (by decide) rfl ?_
  refine xs_iconst (v := 1) dL_after_13 (by decide) ?_
  exact xs_iret hX rfl dL_after_14 rfl rfl
