set_option maxRecDepth 100000 in
theorem kwW_make : xwW RL 41 yL_make cL_make 6 (some .int) [(0, 12, 15, 13)] 5 := ⟨xt_of (List.mem_of_getElem? (i := 304) rfl) rfl, xt_of (by decide +kernel) rfl, xt_of (by decide +kernel) rfl, xt_of (by decide +kernel) rfl, by decide +kernel⟩
set_option maxRecDepth 100000 in
theorem kwl_Mo_make : xwV RL 46 yX4_make cX4_make 5 (some .int) 3 := ⟨⟨xt_of (List.mem_of_getElem? (i := 594) rfl) rfl, xt_of (by decide +kernel) rfl, xt_of (by decide +kernel) rfl, by decide +kernel⟩, xt_of (by decide +kernel) rfl, xt_of (by decide +kernel) rfl⟩
set_option maxRecDepth 100000 in
theorem kwl_Mo_thrown : xwV RL 47 yX4_thrown cX4_thrown 1 (some .int) 0 := ⟨⟨xt_of (List.mem_of_getElem? (i := 590) rfl) rfl, xt_of (by decide +kernel) rfl, xt_of (by decide +kernel) rfl, by decide +kernel⟩, xt_of (by decide +kernel) rfl, xt_of (by decide +kernel) rfl⟩
set_option maxRecDepth 100000 in
theorem kwW_put : xwW RL 51 yL_put cL_put 5 (some .int) [(0, 9, 12, 19)] 4 := ⟨xt_of (List.mem_of_getElem? (i := 383) rfl) rfl, xt_of (by decide +kernel) rfl, xt_of (by decide +kernel) rfl, xt_of (by decide +kernel) rfl, by decide +kernel⟩
set_option maxRecDepth 100000 in
theorem kwl_Mo_put : xwV RL 54 yX4_put cX4_put 6 (some .long) 2 := ⟨⟨xt_of (List.mem_of_getElem? (i := 602) rfl) rfl, xt_of (by decide +kernel) rfl, xt_of (by decide +kernel) rfl, by decide +kernel⟩, xt_of (by decide +kernel) rfl, xt_of (by decide +kernel) rfl⟩
set_option maxRecDepth 100000 in
theorem kwW_find : xwW RL 55 yL_find cL_find 5 (some .int) [(0, 10, 13, 25)] 4 := ⟨xt_of (List.mem_of_getElem? (i := 508) rfl) rfl, xt_of (by decide +kernel) rfl, xt_of (by decide +kernel) rfl, xt_of (by decide +kernel) rfl, by decide +kernel⟩
set_option maxRecDepth 100000 in
theorem kwl_Mo_find : xwV RL 58 yX4_find cX4_find 5 (some .int) 2 := ⟨⟨xt_of (List.mem_of_getElem? (i := 631) rfl) rfl, xt_of (by decide +kernel) rfl, xt_of (by decide +kernel) rfl, by decide +kernel⟩, xt_of (by decide +kernel) rfl, xt_of (by decide +kernel) rfl⟩
set_option maxRecDepth 100000 in
theorem kwl_BM_has : xwV RL 59 yX3_has cX3_has 2 (some .boolean) 1 := ⟨⟨xt_of (List.mem_of_getElem? (i := 155) rfl) rfl, xt_of (by decide +kernel) rfl, xt_of (by decide +kernel) rfl, by decide +kernel⟩, xt_of (by decide +kernel) rfl, xt_of (by decide +kernel) rfl⟩
set_option maxRecDepth 100000 in
theorem kwl_Mo_has : xwV RL 63 yX4_has cX4_has 2 (some .boolean) 1 := ⟨⟨xt_of (List.mem_of_getElem? (i := 635) rfl) rfl, xt_of (by decide +kernel) rfl, xt_of (by decide +kernel) rfl, by decide +kernel⟩, xt_of (by decide +kernel) rfl, xt_of (by decide +kernel) rfl⟩
set_option maxRecDepth 100000 in
theorem kwW_fill : xwW RL 64 yL_fill cL_fill 6 (some .int) [(0, 12, 15, 13)] 5 := ⟨xt_of (List.mem_of_getElem? (i := 531) rfl) rfl, xt_of (by decide +kernel) rfl, xt_of (by decide +kernel) rfl, xt_of (by decide +kernel) rfl, by decide +kernel⟩
set_option maxRecDepth 100000 in
theorem kwl_Mo_fill : xwV RL 66 yX4_fill cX4_fill 5 (some .int) 3 := ⟨⟨xt_of (List.mem_of_getElem? (i := 639) rfl) rfl, xt_of (by decide +kernel) rfl, xt_of (by decide +kernel) rfl, by decide +kernel⟩, xt_of (by decide +kernel) rfl, xt_of (by decide +kernel) rfl⟩
set_option maxRecDepth 100000 in
theorem kwW_at : xwW RL 67 yL_at cL_at 4 (some .int) [(0, 9, 12, 25)] 3 := ⟨xt_of (List.mem_of_getElem? (i := 538) rfl) rfl, xt_of (by decide +kernel) rfl, xt_of (by decide +kernel) rfl, xt_of (by decide +kernel) rfl, by decide +kernel⟩
set_option maxRecDepth 100000 in
theorem kwl_Mo_at : xwV RL 70 yX4_at cX4_at 2 (some .int) 1 := ⟨⟨xt_of (List.mem_of_getElem? (i := 643) rfl) rfl, xt_of (by decide +kernel) rfl, xt_of (by decide +kernel) rfl, by decide +kernel⟩, xt_of (by decide +kernel) rfl, xt_of (by decide +kernel) rfl⟩
set_option maxRecDepth 100000 in
theorem kwW_after : xwW RL 71 yL_after cL_after 4 (some .int) [(0, 9, 12, 25)] 3 := ⟨xt_of (List.mem_of_getElem? (i := 545) rfl) rfl, xt_of (by decide +kernel) rfl, xt_of (by decide +kernel) rfl, xt_of (by decide +kernel) rfl, by decide +kernel⟩
set_option maxRecDepth 100000 in
theorem kwl_Mo_after : xwV RL 73 yX4_after cX4_after 3 (some .int) 1 := ⟨⟨xt_of (List.mem_of_getElem? (i := 656) rfl) rfl, xt_of (by decide +kernel) rfl, xt_of (by decide +kernel) rfl, by decide +kernel⟩, xt_of (by decide +kernel) rfl, xt_of (by decide +kernel) rfl⟩
set_option maxRecDepth 100000 in
theorem kwl_BM_size : xwV RL 74 yX3_size cX3_size 1 (some .int) 0 := ⟨⟨xt_of (List.mem_of_getElem? (i := 180) rfl) rfl, xt_of (by decide +kernel) rfl, xt_of (by decide +kernel) rfl, by decide +kernel⟩, xt_of (by decide +kernel) rfl, xt_of (by decide +kernel) rfl⟩
set_option maxRecDepth 100000 in
theorem kwl_Mo_size : xwV RL 77 yX4_size cX4_size 1 (some .int) 0 := ⟨⟨xt_of (List.mem_of_getElem? (i := 660) rfl) rfl, xt_of (by decide +kernel) rfl, xt_of (by decide +kernel) rfl, by decide +kernel⟩, xt_of (by decide +kernel) rfl, xt_of (by decide +kernel) rfl⟩
set_option maxRecDepth 100000 in
theorem kwl_BM_clear : xwV RL 78 yX3_clear cX3_clear 2 (some .int) 0 := ⟨⟨xt_of (List.mem_of_getElem? (i := 188) rfl) rfl, xt_of (by decide +kernel) rfl, xt_of (by decide +kernel) rfl, by decide +kernel⟩, xt_of (by decide +kernel) rfl, xt_of (by decide +kernel) rfl⟩
set_option maxRecDepth 100000 in
theorem kwl_Mo_clear : xwV RL 81 yX4_clear cX4_clear 2 (some .int) 0 := ⟨⟨xt_of (List.mem_of_getElem? (i := 664) rfl) rfl, xt_of (by decide +kernel) rfl, xt_of (by decide +kernel) rfl, by decide +kernel⟩, xt_of (by decide +kernel) rfl, xt_of (by decide +kernel) rfl⟩
set_option maxRecDepth 100000 in
theorem kwl_BM_hash : xwV RL 82 yX3_hash cX3_hash 4 (some .int) 0 := ⟨⟨xt_of (List.mem_of_getElem? (i := 203) rfl) rfl, xt_of (by decide +kernel) rfl, xt_of (by decide +kernel) rfl, by decide +kernel⟩, xt_of (by decide +kernel) rfl, xt_of (by decide +kernel) rfl⟩
set_option maxRecDepth 100000 in
theorem kwl_Mo_hash : xwV RL 85 yX4_hash cX4_hash 3 (some .int) 0 := ⟨⟨xt_of (List.mem_of_getElem? (i := 668) rfl) rfl, xt_of (by decide +kernel) rfl, xt_of (by decide +kernel) rfl, by decide +kernel⟩, xt_of (by decide +kernel) rfl, xt_of (by decide +kernel) rfl⟩
set_option maxRecDepth 100000 in
theorem kwl_BM_wrong : xwV RL 86 yX3_wrong cX3_wrong 3 (some .int) 0 := ⟨⟨xt_of (List.mem_of_getElem? (i := 236) rfl) rfl, xt_of (by decide +kernel) rfl, xt_of (by decide +kernel) rfl, by decide +kernel⟩, xt_of (by decide +kernel) rfl, xt_of (by decide +kernel) rfl⟩
set_option maxRecDepth 100000 in
theorem kwl_Mo_wrong : xwV RL 89 yX4_wrong cX4_wrong 1 (some .int) 0 := ⟨⟨xt_of (List.mem_of_getElem? (i := 672) rfl) rfl, xt_of (by decide +kernel) rfl, xt_of (by decide +kernel) rfl, by decide +kernel⟩, xt_of (by decide +kernel) rfl, xt_of (by decide +kernel) rfl⟩
set_option maxHeartbeats 4000000 in
set_option maxRecDepth 100000 in
theorem lw_c_make {X : xz_X} {cA cL : ClassId} {ad am : Nat → Nat} {b o N i k n : Nat} {f : Nat → Int32} (hty : xty X = [(cL, .long)]) (hE : xEl X) (hX : xscr X b N f) (hN : N ≤ 2048) (hi : i + 4 ≤ N) (hk : k + 1 ≤ 1053) (hn : n + 6 ≤ 50707) (nx : ∀ (s : zT) (m : zM) (kv : List (Int32 × Int32)) (g : Nat → Int64) (k' n' : Nat), Rl s m kv → k' ≤ k + 1 → n' ≤ n + 6 → xs X cA RL code 8 ret room_1 (wo ad cA cL o s g ++ wm am cA m) k' n' 596 [(4, .int (nI i)), (3, .ref o), (2, .ref (am 0)), (1, .ref (ad 0)), (0, .ref b)] []) {s : zT} {m : zM} {kv : List (Int32 × Int32)} {g : Nat → Int64} (h : Rl s m kv) : xs X cA RL code 8 ret room_1 (wo ad cA cL o s g ++ wm am cA m) k n 96 [(4, .int (nI i)), (3, .ref o), (2, .ref (am 0)), (1, .ref (ad 0)), (0, .ref b)] [] := by
  have hr := (Ab_cnt h.1).2.2.1
  have hz := (Rl_z h).2.2.2
  have hmr := h.2.2.2.2.2.2
  obtain ⟨tR, tT⟩ := T_make (f (i + 1)) (f (i + 2)) (f (i + 3)) h
  by_cases hc : mBM_isMode (f (i + 1)) (f (i + 3)) = true ∧ ¬ (f (i + 2)) < 0 ∧ (f (i + 2)) ≤ 2
  · obtain ⟨e1, e2, e3⟩ := tR hc.1 hc.2.1 hc.2.2
    refine xs_aload_n 3 dL_law_96 rfl ?_
    refine xs_aload_n 4 dL_law_97 rfl ?_
    refine xs_iload 0 dL_law_98 rfl ?_
    refine xs_iconst (v := nI 1) dL_law_100 rfl ?_
    refine xs_iadd dL_law_101 ?_
    refine xs_top (nI_add _ _) ?_
    refine xs_sld hX hN dL_law_102 (by omega) ?_
    refine xs_aload_n 4 dL_law_103 rfl ?_
    refine xs_iload 0 dL_law_104 rfl ?_
    refine xs_iconst (v := nI 2) dL_law_106 rfl ?_
    refine xs_iadd dL_law_107 ?_
    refine xs_top (nI_add _ _) ?_
    refine xs_sld hX hN dL_law_108 (by omega) ?_
    refine xs_aload_n 4 dL_law_109 rfl ?_
    refine xs_iload 0 dL_law_110 rfl ?_
    refine xs_iconst (v := nI 3) dL_law_112 rfl ?_
    refine xs_iadd dL_law_113 ?_
    refine xs_top (nI_add _ _) ?_
    refine xs_sld hX hN dL_law_114 (by omega) ?_
    refine xs_aload_n 1 dL_law_115 rfl ?_
    refine xs_callW (chR_make ad cA cL o s g (f (i + 1)) (f (i + 2)) (f (i + 3)) hc.1 hc.2.1 hc.2.2) hty hE dL_law_116 kwW_make ⟨Nat.le_of_ble_eq_true rfl, Nat.le_of_ble_eq_true rfl⟩ rfl (Nat.le_of_ble_eq_true rfl) ⟨(by show k + 0 ≤ 1053; omega), (by show n + 0 ≤ 50707; omega)⟩ ?_
    refine xs_istore (L' := [(5, _), (4, _), (3, _), (2, _), (1, _), (0, _)]) dL_law_119 (by decide) rfl ?_
    refine xs_aload_n 3 dL_law_121 rfl ?_
    refine xs_aload_n 5 dL_law_122 rfl ?_
    refine xs_iload 1 dL_law_123 rfl ?_
    refine xs_iconst (v := nI 1) dL_law_125 rfl ?_
    refine xs_iadd dL_law_126 ?_
    refine xs_top (nI_add _ _) ?_
    refine xs_sld hX hN dL_law_127 (by omega) ?_
    refine xs_aload_n 5 dL_law_128 rfl ?_
    refine xs_iload 1 dL_law_129 rfl ?_
    refine xs_iconst (v := nI 2) dL_law_131 rfl ?_
    refine xs_iadd dL_law_132 ?_
    refine xs_top (nI_add _ _) ?_
    refine xs_sld hX hN dL_law_133 (by omega) ?_
    refine xs_aload_n 5 dL_law_134 rfl ?_
    refine xs_iload 1 dL_law_135 rfl ?_
    refine xs_iconst (v := nI 3) dL_law_137 rfl ?_
    refine xs_iadd dL_law_138 ?_
    refine xs_top (nI_add _ _) ?_
    refine xs_sld hX hN dL_law_139 (by omega) ?_
    refine xs_swap ?_
    refine xs_callF 0 (c_Mo_make am cA m (f (i + 1)) (f (i + 2)) (f (i + 3))) rfl rfl dL_law_140 kwl_Mo_make ⟨Nat.le_of_ble_eq_true rfl, Nat.le_of_ble_eq_true rfl⟩ rfl rfl rfl (Nat.le_of_ble_eq_true rfl) ⟨(by show k + 0 ≤ 1053; omega), (by show n + 0 ≤ 50707; omega)⟩ ?_
    refine xs_swap ?_
    refine xs_istore (L' := [(6, _), (5, _), (4, _), (3, _), (2, _), (1, _), (0, _)]) dL_law_143 (by decide) rfl ?_
    refine xs_aload_n 4 dL_law_145 rfl ?_
    refine xs_swap ?_
    refine xs_callF 0 (c_Mo_thrown am cA _) rfl rfl dL_law_146 kwl_Mo_thrown ⟨Nat.le_of_ble_eq_true rfl, Nat.le_of_ble_eq_true rfl⟩ rfl rfl rfl (Nat.le_of_ble_eq_true rfl) ⟨(by show k + 0 ≤ 1053; omega), (by show n + 0 ≤ 50707; omega)⟩ ?_
    refine xs_swap ?_
    refine xs_iload 1 dL_law_149 rfl ?_
    refine xs_icmp_eq (t := 156) dL_law_151 (by decide) (fun c151 => ?_) (fun c151 => absurd e2 c151)
    refine xs_iload 1 dL_law_156 rfl ?_
    refine xs_if_ne (t := 173) dL_law_158 (by decide) (fun c158 => absurd rfl c158) (fun c158 => ?_)
    refine xs_aload_n 3 dL_law_161 rfl ?_
    refine xs_iconst (v := 0) dL_law_162 (by decide) ?_
    refine xs_lald 17 hty dL_law_163 rfl xin01 rfl ?_
    refine xs_iload 0 dL_law_164 rfl ?_
    refine xs_i2l dL_law_166 ?_
    refine xs_lcmp0 (congrArg Int32.toInt64 e1).symm dL_law_167 ?_
    refine xs_if_eq (t := 173) dL_law_168 (by decide) (fun c168 => ?_) (fun c168 => absurd rfl c168)
    refine xs_goto (t := 596) dL_law_173 (by decide) ?_
    refine xs_sub (L' := [(4, .int (nI i)), (3, .ref o), (2, .ref (am 0)), (1, .ref (ad 0)), (0, .ref b)]) [2, 3, 4, 5, 6] rfl ?_
    exact nx _ _ _ _ _ _ e3 (by show k + 0 ≤ k + 1; omega) (by show n + 0 ≤ n + 6; omega)
  · have hd : mBM_isMode (f (i + 1)) (f (i + 3)) = false ∨ (f (i + 2)) < 0 ∨ ¬ (f (i + 2)) ≤ 2 := by
      by_cases d1 : mBM_isMode (f (i + 1)) (f (i + 3)) = true
      · by_cases d2 : (f (i + 2)) < 0
        · exact Or.inr (Or.inl d2)
        · exact Or.inr (Or.inr (fun d3 => hc ⟨d1, d2, d3⟩))
      · exact Or.inl (by rwa [Bool.not_eq_true] at d1)
    obtain ⟨e2, e3⟩ := tT hd
    refine xs_aload_n 3 dL_law_96 rfl ?_
    refine xs_aload_n 4 dL_law_97 rfl ?_
    refine xs_iload 0 dL_law_98 rfl ?_
    refine xs_iconst (v := nI 1) dL_law_100 rfl ?_
    refine xs_iadd dL_law_101 ?_
    refine xs_top (nI_add _ _) ?_
    refine xs_sld hX hN dL_law_102 (by omega) ?_
    refine xs_aload_n 4 dL_law_103 rfl ?_
    refine xs_iload 0 dL_law_104 rfl ?_
    refine xs_iconst (v := nI 2) dL_law_106 rfl ?_
    refine xs_iadd dL_law_107 ?_
    refine xs_top (nI_add _ _) ?_
    refine xs_sld hX hN dL_law_108 (by omega) ?_
    refine xs_aload_n 4 dL_law_109 rfl ?_
    refine xs_iload 0 dL_law_110 rfl ?_
    refine xs_iconst (v := nI 3) dL_law_112 rfl ?_
    refine xs_iadd dL_law_113 ?_
    refine xs_top (nI_add _ _) ?_
    refine xs_sld hX hN dL_law_114 (by omega) ?_
    refine xs_aload_n 1 dL_law_115 rfl ?_
    refine xs_callW (chT_make ad cA cL o s g (f (i + 1)) (f (i + 2)) (f (i + 3)) hd) hty hE dL_law_116 kwW_make ⟨Nat.le_of_ble_eq_true rfl, Nat.le_of_ble_eq_true rfl⟩ rfl (Nat.le_of_ble_eq_true rfl) ⟨(by show k + 1 ≤ 1053; omega), (by show n + 6 ≤ 50707; omega)⟩ ?_
    refine xs_istore (L' := [(5, _), (4, _), (3, _), (2, _), (1, _), (0, _)]) dL_law_119 (by decide) rfl ?_
    refine xs_aload_n 3 dL_law_121 rfl ?_
    refine xs_aload_n 5 dL_law_122 rfl ?_
    refine xs_iload 1 dL_law_123 rfl ?_
    refine xs_iconst (v := nI 1) dL_law_125 rfl ?_
    refine xs_iadd dL_law_126 ?_
    refine xs_top (nI_add _ _) ?_
    refine xs_sld hX hN dL_law_127 (by omega) ?_
    refine xs_aload_n 5 dL_law_128 rfl ?_
    refine xs_iload 1 dL_law_129 rfl ?_
    refine xs_iconst (v := nI 2) dL_law_131 rfl ?_
    refine xs_iadd dL_law_132 ?_
    refine xs_top (nI_add _ _) ?_
    refine xs_sld hX hN dL_law_133 (by omega) ?_
    refine xs_aload_n 5 dL_law_134 rfl ?_
    refine xs_iload 1 dL_law_135 rfl ?_
    refine xs_iconst (v := nI 3) dL_law_137 rfl ?_
    refine xs_iadd dL_law_138 ?_
    refine xs_top (nI_add _ _) ?_
    refine xs_sld hX hN dL_law_139 (by omega) ?_
    refine xs_swap ?_
    refine xs_callF 0 (c_Mo_make am cA m (f (i + 1)) (f (i + 2)) (f (i + 3))) rfl rfl dL_law_140 kwl_Mo_make ⟨Nat.le_of_ble_eq_true rfl, Nat.le_of_ble_eq_true rfl⟩ rfl rfl rfl (Nat.le_of_ble_eq_true rfl) ⟨(by show k + 1 ≤ 1053; omega), (by show n + 6 ≤ 50707; omega)⟩ ?_
    refine xs_swap ?_
    refine xs_istore (L' := [(6, _), (5, _), (4, _), (3, _), (2, _), (1, _), (0, _)]) dL_law_143 (by decide) rfl ?_
    refine xs_aload_n 4 dL_law_145 rfl ?_
    refine xs_swap ?_
    refine xs_callF 0 (c_Mo_thrown am cA _) rfl rfl dL_law_146 kwl_Mo_thrown ⟨Nat.le_of_ble_eq_true rfl, Nat.le_of_ble_eq_true rfl⟩ rfl rfl rfl (Nat.le_of_ble_eq_true rfl) ⟨(by show k + 1 ≤ 1053; omega), (by show n + 6 ≤ 50707; omega)⟩ ?_
    refine xs_swap ?_
    refine xs_iload 1 dL_law_149 rfl ?_
    refine xs_icmp_eq (t := 156) dL_law_151 (by decide) (fun c151 => ?_) (fun c151 => absurd e2 c151)
    refine xs_iload 1 dL_law_156 rfl ?_
    refine xs_if_ne (t := 173) dL_law_158 (by decide) (fun c158 => ?_) (fun c158 => absurd c158 (by decide))
    refine xs_goto (t := 596) dL_law_173 (by decide) ?_
    refine xs_sub (L' := [(4, .int (nI i)), (3, .ref o), (2, .ref (am 0)), (1, .ref (ad 0)), (0, .ref b)]) [2, 3, 4, 5, 6] rfl ?_
    exact nx _ _ _ _ _ _ e3 (by show k + 1 ≤ k + 1; omega) (by show n + 6 ≤ n + 6; omega)
set_option maxHeartbeats 4000000 in
set_option maxRecDepth 100000 in
theorem lw_c_put {X : xz_X} {cA cL : ClassId} {ad am : Nat → Nat} {b o N i k n : Nat} {f : Nat → Int32} (hty : xty X = [(cL, .long)]) (hE : xEl X) (hX : xscr X b N f) (hN : N ≤ 2048) (hi : i + 4 ≤ N) (hk : k + 1 ≤ 1053) (hn : n + 6 ≤ 50707) (nx : ∀ (s : zT) (m : zM) (kv : List (Int32 × Int32)) (g : Nat → Int64) (k' n' : Nat), Rl s m kv → k' ≤ k + 1 → n' ≤ n + 6 → xs X cA RL code 8 ret room_1 (wo ad cA cL o s g ++ wm am cA m) k' n' 596 [(4, .int (nI i)), (3, .ref o), (2, .ref (am 0)), (1, .ref (ad 0)), (0, .ref b)] []) {s : zT} {m : zM} {kv : List (Int32 × Int32)} {g : Nat → Int64} (h : Rl s m kv) : xs X cA RL code 8 ret room_1 (wo ad cA cL o s g ++ wm am cA m) k n 176 [(4, .int (nI i)), (3, .ref o), (2, .ref (am 0)), (1, .ref (ad 0)), (0, .ref b)] [] := by
  have hr := (Ab_cnt h.1).2.2.1
  have hz := (Rl_z h).2.2.2
  have hmr := h.2.2.2.2.2.2
  obtain ⟨tR, tT, te⟩ := T_put (f (i + 1)) (f (i + 2)) h
  cases hf : mBM_fits s (mBi_find s (f (i + 1))) with
  | true =>
    obtain ⟨e1, e2, kv1, e3⟩ := tR hf
    refine xs_aload_n 3 dL_law_176 rfl ?_
    refine xs_aload_n 4 dL_law_177 rfl ?_
    refine xs_iload 0 dL_law_178 rfl ?_
    refine xs_iconst (v := nI 1) dL_law_180 rfl ?_
    refine xs_iadd dL_law_181 ?_
    refine xs_top (nI_add _ _) ?_
    refine xs_sld hX hN dL_law_182 (by omega) ?_
    refine xs_aload_n 4 dL_law_183 rfl ?_
    refine xs_iload 0 dL_law_184 rfl ?_
    refine xs_iconst (v := nI 2) dL_law_186 rfl ?_
    refine xs_iadd dL_law_187 ?_
    refine xs_top (nI_add _ _) ?_
    refine xs_sld hX hN dL_law_188 (by omega) ?_
    refine xs_aload_n 1 dL_law_189 rfl ?_
    refine xs_callW (chR_put ad cA cL o s g (f (i + 1)) (f (i + 2)) hr hf) hty hE dL_law_190 kwW_put ⟨Nat.le_of_ble_eq_true rfl, Nat.le_of_ble_eq_true rfl⟩ rfl (Nat.le_of_ble_eq_true rfl) ⟨(by show k + 0 ≤ 1053; omega), (by show n + 0 ≤ 50707; omega)⟩ ?_
    refine xs_istore (L' := [(5, _), (4, _), (3, _), (2, _), (1, _), (0, _)]) dL_law_193 (by decide) rfl ?_
    refine xs_aload_n 3 dL_law_195 rfl ?_
    refine xs_aload_n 5 dL_law_196 rfl ?_
    refine xs_iload 1 dL_law_197 rfl ?_
    refine xs_iconst (v := nI 1) dL_law_199 rfl ?_
    refine xs_iadd dL_law_200 ?_
    refine xs_top (nI_add _ _) ?_
    refine xs_sld hX hN dL_law_201 (by omega) ?_
    refine xs_aload_n 5 dL_law_202 rfl ?_
    refine xs_iload 1 dL_law_203 rfl ?_
    refine xs_iconst (v := nI 2) dL_law_205 rfl ?_
    refine xs_iadd dL_law_206 ?_
    refine xs_top (nI_add _ _) ?_
    refine xs_sld hX hN dL_law_207 (by omega) ?_
    refine xs_swap ?_
    refine xs_callF 0 (c_Mo_put am cA m (f (i + 1)) (f (i + 2)) hz te) rfl rfl dL_law_208 kwl_Mo_put ⟨Nat.le_of_ble_eq_true rfl, Nat.le_of_ble_eq_true rfl⟩ rfl rfl rfl (Nat.le_of_ble_eq_true rfl) ⟨(by show k + 0 ≤ 1053; omega), (by show n + 0 ≤ 50707; omega)⟩ ?_
    refine xs_swap ?_
    refine xs_lstore (L' := [(6, _), (5, _), (4, _), (3, _), (2, _), (1, _), (0, _)]) dL_law_211 (by decide) rfl ?_
    refine xs_aload_n 4 dL_law_213 rfl ?_
    refine xs_swap ?_
    refine xs_callF 0 (c_Mo_thrown am cA _) rfl rfl dL_law_214 kwl_Mo_thrown ⟨Nat.le_of_ble_eq_true rfl, Nat.le_of_ble_eq_true rfl⟩ rfl rfl rfl (Nat.le_of_ble_eq_true rfl) ⟨(by show k + 0 ≤ 1053; omega), (by show n + 0 ≤ 50707; omega)⟩ ?_
    refine xs_swap ?_
    refine xs_iload 1 dL_law_217 rfl ?_
    refine xs_icmp_eq (t := 224) dL_law_219 (by decide) (fun c219 => ?_) (fun c219 => absurd e2 c219)
    refine xs_iload 1 dL_law_224 rfl ?_
    refine xs_if_ne (t := 240) dL_law_226 (by decide) (fun c226 => absurd rfl c226) (fun c226 => ?_)
    refine xs_aload_n 3 dL_law_229 rfl ?_
    refine xs_iconst (v := 0) dL_law_230 (by decide) ?_
    refine xs_lald 17 hty dL_law_231 rfl xin01 rfl ?_
    refine xs_lload 0 dL_law_232 rfl ?_
    refine xs_lcmp0 e1.symm dL_law_234 ?_
    refine xs_if_eq (t := 240) dL_law_235 (by decide) (fun c235 => ?_) (fun c235 => absurd rfl c235)
    refine xs_goto (t := 596) dL_law_240 (by decide) ?_
    refine xs_sub (L' := [(4, .int (nI i)), (3, .ref o), (2, .ref (am 0)), (1, .ref (ad 0)), (0, .ref b)]) [2, 3, 4, 5, 6] rfl ?_
    exact nx _ _ _ _ _ _ e3 (by show k + 0 ≤ k + 1; omega) (by show n + 0 ≤ n + 6; omega)
  | false =>
    obtain ⟨e2, e3⟩ := tT hf
    refine xs_aload_n 3 dL_law_176 rfl ?_
    refine xs_aload_n 4 dL_law_177 rfl ?_
    refine xs_iload 0 dL_law_178 rfl ?_
    refine xs_iconst (v := nI 1) dL_law_180 rfl ?_
    refine xs_iadd dL_law_181 ?_
    refine xs_top (nI_add _ _) ?_
    refine xs_sld hX hN dL_law_182 (by omega) ?_
    refine xs_aload_n 4 dL_law_183 rfl ?_
    refine xs_iload 0 dL_law_184 rfl ?_
    refine xs_iconst (v := nI 2) dL_law_186 rfl ?_
    refine xs_iadd dL_law_187 ?_
    refine xs_top (nI_add _ _) ?_
    refine xs_sld hX hN dL_law_188 (by omega) ?_
    refine xs_aload_n 1 dL_law_189 rfl ?_
    refine xs_callW (chT_put ad cA cL o s g (f (i + 1)) (f (i + 2)) hr hf) hty hE dL_law_190 kwW_put ⟨Nat.le_of_ble_eq_true rfl, Nat.le_of_ble_eq_true rfl⟩ rfl (Nat.le_of_ble_eq_true rfl) ⟨(by show k + 1 ≤ 1053; omega), (by show n + 6 ≤ 50707; omega)⟩ ?_
    refine xs_istore (L' := [(5, _), (4, _), (3, _), (2, _), (1, _), (0, _)]) dL_law_193 (by decide) rfl ?_
    refine xs_aload_n 3 dL_law_195 rfl ?_
    refine xs_aload_n 5 dL_law_196 rfl ?_
    refine xs_iload 1 dL_law_197 rfl ?_
    refine xs_iconst (v := nI 1) dL_law_199 rfl ?_
    refine xs_iadd dL_law_200 ?_
    refine xs_top (nI_add _ _) ?_
    refine xs_sld hX hN dL_law_201 (by omega) ?_
    refine xs_aload_n 5 dL_law_202 rfl ?_
    refine xs_iload 1 dL_law_203 rfl ?_
    refine xs_iconst (v := nI 2) dL_law_205 rfl ?_
    refine xs_iadd dL_law_206 ?_
    refine xs_top (nI_add _ _) ?_
    refine xs_sld hX hN dL_law_207 (by omega) ?_
    refine xs_swap ?_
    refine xs_callF 0 (c_Mo_put am cA m (f (i + 1)) (f (i + 2)) hz te) rfl rfl dL_law_208 kwl_Mo_put ⟨Nat.le_of_ble_eq_true rfl, Nat.le_of_ble_eq_true rfl⟩ rfl rfl rfl (Nat.le_of_ble_eq_true rfl) ⟨(by show k + 1 ≤ 1053; omega), (by show n + 6 ≤ 50707; omega)⟩ ?_
    refine xs_swap ?_
    refine xs_lstore (L' := [(6, _), (5, _), (4, _), (3, _), (2, _), (1, _), (0, _)]) dL_law_211 (by decide) rfl ?_
    refine xs_aload_n 4 dL_law_213 rfl ?_
    refine xs_swap ?_
    refine xs_callF 0 (c_Mo_thrown am cA _) rfl rfl dL_law_214 kwl_Mo_thrown ⟨Nat.le_of_ble_eq_true rfl, Nat.le_of_ble_eq_true rfl⟩ rfl rfl rfl (Nat.le_of_ble_eq_true rfl) ⟨(by show k + 1 ≤ 1053; omega), (by show n + 6 ≤ 50707; omega)⟩ ?_
    refine xs_swap ?_
    refine xs_iload 1 dL_law_217 rfl ?_
    refine xs_icmp_eq (t := 224) dL_law_219 (by decide) (fun c219 => ?_) (fun c219 => absurd e2 c219)
    refine xs_iload 1 dL_law_224 rfl ?_
    refine xs_if_ne (t := 240) dL_law_226 (by decide) (fun c226 => ?_) (fun c226 => absurd c226 (by decide))
    refine xs_goto (t := 596) dL_law_240 (by decide) ?_
    refine xs_sub (L' := [(4, .int (nI i)), (3, .ref o), (2, .ref (am 0)), (1, .ref (ad 0)), (0, .ref b)]) [2, 3, 4, 5, 6] rfl ?_
    exact nx _ _ _ _ _ _ e3 (by show k + 1 ≤ k + 1; omega) (by show n + 6 ≤ n + 6; omega)
set_option maxHeartbeats 4000000 in
set_option maxRecDepth 100000 in
theorem lw_c_find {X : xz_X} {cA cL : ClassId} {ad am : Nat → Nat} {b o N i k n : Nat} {f : Nat → Int32} (hty : xty X = [(cL, .long)]) (hE : xEl X) (hX : xscr X b N f) (hN : N ≤ 2048) (hi : i + 4 ≤ N) (hk : k + 1 ≤ 1053) (hn : n + 6 ≤ 50707) (nx : ∀ (s : zT) (m : zM) (kv : List (Int32 × Int32)) (g : Nat → Int64) (k' n' : Nat), Rl s m kv → k' ≤ k + 1 → n' ≤ n + 6 → xs X cA RL code 8 ret room_1 (wo ad cA cL o s g ++ wm am cA m) k' n' 596 [(4, .int (nI i)), (3, .ref o), (2, .ref (am 0)), (1, .ref (ad 0)), (0, .ref b)] []) {s : zT} {m : zM} {kv : List (Int32 × Int32)} {g : Nat → Int64} (h : Rl s m kv) : xs X cA RL code 8 ret room_1 (wo ad cA cL o s g ++ wm am cA m) k n 243 [(4, .int (nI i)), (3, .ref o), (2, .ref (am 0)), (1, .ref (ad 0)), (0, .ref b)] [] := by
  have hr := (Ab_cnt h.1).2.2.1
  have hz := (Rl_z h).2.2.2
  have hmr := h.2.2.2.2.2.2
  by_cases hb : (f (i + 2)) = 0
  · obtain ⟨tR, tT⟩ := T_find (f (i + 1)) false h
    by_cases hf : mBi_find s (f (i + 1)) = 0
    · obtain ⟨e2, e3⟩ := tT hf
      refine xs_aload_n 3 dL_law_243 rfl ?_
      refine xs_aload_n 4 dL_law_244 rfl ?_
      refine xs_iload 0 dL_law_245 rfl ?_
      refine xs_iconst (v := nI 1) dL_law_247 rfl ?_
      refine xs_iadd dL_law_248 ?_
      refine xs_top (nI_add _ _) ?_
      refine xs_sld hX hN dL_law_249 (by omega) ?_
      refine xs_aload_n 4 dL_law_250 rfl ?_
      refine xs_iload 0 dL_law_251 rfl ?_
      refine xs_iconst (v := nI 2) dL_law_253 rfl ?_
      refine xs_iadd dL_law_254 ?_
      refine xs_top (nI_add _ _) ?_
      refine xs_sld hX hN dL_law_255 (by omega) ?_
      refine xs_if_eq (t := 263) dL_law_256 (by decide) (fun c256 => ?_) (fun c256 => absurd hb c256)
      refine xs_iconst (v := zb false) dL_law_263 rfl ?_
      refine xs_aload_n 1 dL_law_264 rfl ?_
      refine xs_callW (chT_find ad cA cL o s g (f (i + 1)) false hr hf) hty hE dL_law_265 kwW_find ⟨Nat.le_of_ble_eq_true rfl, Nat.le_of_ble_eq_true rfl⟩ rfl (Nat.le_of_ble_eq_true rfl) ⟨(by show k + 1 ≤ 1053; omega), (by show n + 6 ≤ 50707; omega)⟩ ?_
      refine xs_istore (L' := [(5, _), (4, _), (3, _), (2, _), (1, _), (0, _)]) dL_law_268 (by decide) rfl ?_
      refine xs_aload_n 3 dL_law_270 rfl ?_
      refine xs_aload_n 5 dL_law_271 rfl ?_
      refine xs_iload 1 dL_law_272 rfl ?_
      refine xs_iconst (v := nI 1) dL_law_274 rfl ?_
      refine xs_iadd dL_law_275 ?_
      refine xs_top (nI_add _ _) ?_
      refine xs_sld hX hN dL_law_276 (by omega) ?_
      refine xs_aload_n 5 dL_law_277 rfl ?_
      refine xs_iload 1 dL_law_278 rfl ?_
      refine xs_iconst (v := nI 2) dL_law_280 rfl ?_
      refine xs_iadd dL_law_281 ?_
      refine xs_top (nI_add _ _) ?_
      refine xs_sld hX hN dL_law_282 (by omega) ?_
      refine xs_if_eq (t := 290) dL_law_283 (by decide) (fun c283 => ?_) (fun c283 => absurd hb c283)
      refine xs_iconst (v := zb false) dL_law_290 rfl ?_
      refine xs_swap ?_
      refine xs_callF 0 (c_Mo_find am cA m (f (i + 1)) false hz) rfl rfl dL_law_291 kwl_Mo_find ⟨Nat.le_of_ble_eq_true rfl, Nat.le_of_ble_eq_true rfl⟩ rfl rfl rfl (Nat.le_of_ble_eq_true rfl) ⟨(by show k + 1 ≤ 1053; omega), (by show n + 6 ≤ 50707; omega)⟩ ?_
      refine xs_swap ?_
      refine xs_istore (L' := [(6, _), (5, _), (4, _), (3, _), (2, _), (1, _), (0, _)]) dL_law_294 (by decide) rfl ?_
      refine xs_aload_n 4 dL_law_296 rfl ?_
      refine xs_swap ?_
      refine xs_callF 0 (c_Mo_thrown am cA _) rfl rfl dL_law_297 kwl_Mo_thrown ⟨Nat.le_of_ble_eq_true rfl, Nat.le_of_ble_eq_true rfl⟩ rfl rfl rfl (Nat.le_of_ble_eq_true rfl) ⟨(by show k + 1 ≤ 1053; omega), (by show n + 6 ≤ 50707; omega)⟩ ?_
      refine xs_swap ?_
      refine xs_iload 1 dL_law_300 rfl ?_
      refine xs_icmp_eq (t := 307) dL_law_302 (by decide) (fun c302 => ?_) (fun c302 => absurd e2 c302)
      refine xs_iload 1 dL_law_307 rfl ?_
      refine xs_if_ne (t := 324) dL_law_309 (by decide) (fun c309 => ?_) (fun c309 => absurd c309 (by decide))
      refine xs_goto (t := 596) dL_law_324 (by decide) ?_
      refine xs_sub (L' := [(4, .int (nI i)), (3, .ref o), (2, .ref (am 0)), (1, .ref (ad 0)), (0, .ref b)]) [2, 3, 4, 5, 6] rfl ?_
      exact nx _ _ _ _ _ _ e3 (by show k + 1 ≤ k + 1; omega) (by show n + 6 ≤ n + 6; omega)
    · obtain ⟨e1, e2, kv1, e3⟩ := tR hf
      refine xs_aload_n 3 dL_law_243 rfl ?_
      refine xs_aload_n 4 dL_law_244 rfl ?_
      refine xs_iload 0 dL_law_245 rfl ?_
      refine xs_iconst (v := nI 1) dL_law_247 rfl ?_
      refine xs_iadd dL_law_248 ?_
      refine xs_top (nI_add _ _) ?_
      refine xs_sld hX hN dL_law_249 (by omega) ?_
      refine xs_aload_n 4 dL_law_250 rfl ?_
      refine xs_iload 0 dL_law_251 rfl ?_
      refine xs_iconst (v := nI 2) dL_law_253 rfl ?_
      refine xs_iadd dL_law_254 ?_
      refine xs_top (nI_add _ _) ?_
      refine xs_sld hX hN dL_law_255 (by omega) ?_
      refine xs_if_eq (t := 263) dL_law_256 (by decide) (fun c256 => ?_) (fun c256 => absurd hb c256)
      refine xs_iconst (v := zb false) dL_law_263 rfl ?_
      refine xs_aload_n 1 dL_law_264 rfl ?_
      refine xs_callW (chR_find ad cA cL o s g (f (i + 1)) false hr hf) hty hE dL_law_265 kwW_find ⟨Nat.le_of_ble_eq_true rfl, Nat.le_of_ble_eq_true rfl⟩ rfl (Nat.le_of_ble_eq_true rfl) ⟨(by show k + 0 ≤ 1053; omega), (by show n + 0 ≤ 50707; omega)⟩ ?_
      refine xs_istore (L' := [(5, _), (4, _), (3, _), (2, _), (1, _), (0, _)]) dL_law_268 (by decide) rfl ?_
      refine xs_aload_n 3 dL_law_270 rfl ?_
      refine xs_aload_n 5 dL_law_271 rfl ?_
      refine xs_iload 1 dL_law_272 rfl ?_
      refine xs_iconst (v := nI 1) dL_law_274 rfl ?_
      refine xs_iadd dL_law_275 ?_
      refine xs_top (nI_add _ _) ?_
      refine xs_sld hX hN dL_law_276 (by omega) ?_
      refine xs_aload_n 5 dL_law_277 rfl ?_
      refine xs_iload 1 dL_law_278 rfl ?_
      refine xs_iconst (v := nI 2) dL_law_280 rfl ?_
      refine xs_iadd dL_law_281 ?_
      refine xs_top (nI_add _ _) ?_
      refine xs_sld hX hN dL_law_282 (by omega) ?_
      refine xs_if_eq (t := 290) dL_law_283 (by decide) (fun c283 => ?_) (fun c283 => absurd hb c283)
      refine xs_iconst (v := zb false) dL_law_290 rfl ?_
      refine xs_swap ?_
      refine xs_callF 0 (c_Mo_find am cA m (f (i + 1)) false hz) rfl rfl dL_law_291 kwl_Mo_find ⟨Nat.le_of_ble_eq_true rfl, Nat.le_of_ble_eq_true rfl⟩ rfl rfl rfl (Nat.le_of_ble_eq_true rfl) ⟨(by show k + 0 ≤ 1053; omega), (by show n + 0 ≤ 50707; omega)⟩ ?_
      refine xs_swap ?_
      refine xs_istore (L' := [(6, _), (5, _), (4, _), (3, _), (2, _), (1, _), (0, _)]) dL_law_294 (by decide) rfl ?_
      refine xs_aload_n 4 dL_law_296 rfl ?_
      refine xs_swap ?_
      refine xs_callF 0 (c_Mo_thrown am cA _) rfl rfl dL_law_297 kwl_Mo_thrown ⟨Nat.le_of_ble_eq_true rfl, Nat.le_of_ble_eq_true rfl⟩ rfl rfl rfl (Nat.le_of_ble_eq_true rfl) ⟨(by show k + 0 ≤ 1053; omega), (by show n + 0 ≤ 50707; omega)⟩ ?_
      refine xs_swap ?_
      refine xs_iload 1 dL_law_300 rfl ?_
      refine xs_icmp_eq (t := 307) dL_law_302 (by decide) (fun c302 => ?_) (fun c302 => absurd e2 c302)
      refine xs_iload 1 dL_law_307 rfl ?_
      refine xs_if_ne (t := 324) dL_law_309 (by decide) (fun c309 => absurd rfl c309) (fun c309 => ?_)
      refine xs_aload_n 3 dL_law_312 rfl ?_
      refine xs_iconst (v := 0) dL_law_313 (by decide) ?_
      refine xs_lald 17 hty dL_law_314 rfl xin01 rfl ?_
      refine xs_iload 0 dL_law_315 rfl ?_
      refine xs_i2l dL_law_317 ?_
      refine xs_lcmp0 (congrArg Int32.toInt64 e1).symm dL_law_318 ?_
      refine xs_if_eq (t := 324) dL_law_319 (by decide) (fun c319 => ?_) (fun c319 => absurd rfl c319)
      refine xs_goto (t := 596) dL_law_324 (by decide) ?_
      refine xs_sub (L' := [(4, .int (nI i)), (3, .ref o), (2, .ref (am 0)), (1, .ref (ad 0)), (0, .ref b)]) [2, 3, 4, 5, 6] rfl ?_
      exact nx _ _ _ _ _ _ e3 (by show k + 0 ≤ k + 1; omega) (by show n + 0 ≤ n + 6; omega)
  · obtain ⟨tR, tT⟩ := T_find (f (i + 1)) true h
    by_cases hf : mBi_find s (f (i + 1)) = 0
    · obtain ⟨e2, e3⟩ := tT hf
      refine xs_aload_n 3 dL_law_243 rfl ?_
      refine xs_aload_n 4 dL_law_244 rfl ?_
      refine xs_iload 0 dL_law_245 rfl ?_
      refine xs_iconst (v := nI 1) dL_law_247 rfl ?_
      refine xs_iadd dL_law_248 ?_
      refine xs_top (nI_add _ _) ?_
      refine xs_sld hX hN dL_law_249 (by omega) ?_
      refine xs_aload_n 4 dL_law_250 rfl ?_
      refine xs_iload 0 dL_law_251 rfl ?_
      refine xs_iconst (v := nI 2) dL_law_253 rfl ?_
      refine xs_iadd dL_law_254 ?_
      refine xs_top (nI_add _ _) ?_
      refine xs_sld hX hN dL_law_255 (by omega) ?_
      refine xs_if_eq (t := 263) dL_law_256 (by decide) (fun c256 => absurd c256 hb) (fun c256 => ?_)
      refine xs_iconst (v := zb true) dL_law_259 rfl ?_
      refine xs_goto (t := 264) dL_law_260 (by decide) ?_
      refine xs_aload_n 1 dL_law_264 rfl ?_
      refine xs_callW (chT_find ad cA cL o s g (f (i + 1)) true hr hf) hty hE dL_law_265 kwW_find ⟨Nat.le_of_ble_eq_true rfl, Nat.le_of_ble_eq_true rfl⟩ rfl (Nat.le_of_ble_eq_true rfl) ⟨(by show k + 1 ≤ 1053; omega), (by show n + 6 ≤ 50707; omega)⟩ ?_
      refine xs_istore (L' := [(5, _), (4, _), (3, _), (2, _), (1, _), (0, _)]) dL_law_268 (by decide) rfl ?_
      refine xs_aload_n 3 dL_law_270 rfl ?_
      refine xs_aload_n 5 dL_law_271 rfl ?_
      refine xs_iload 1 dL_law_272 rfl ?_
      refine xs_iconst (v := nI 1) dL_law_274 rfl ?_
      refine xs_iadd dL_law_275 ?_
      refine xs_top (nI_add _ _) ?_
      refine xs_sld hX hN dL_law_276 (by omega) ?_
      refine xs_aload_n 5 dL_law_277 rfl ?_
      refine xs_iload 1 dL_law_278 rfl ?_
      refine xs_iconst (v := nI 2) dL_law_280 rfl ?_
      refine xs_iadd dL_law_281 ?_
      refine xs_top (nI_add _ _) ?_
      refine xs_sld hX hN dL_law_282 (by omega) ?_
      refine xs_if_eq (t := 290) dL_law_283 (by decide) (fun c283 => absurd c283 hb) (fun c283 => ?_)
      refine xs_iconst (v := zb true) dL_law_286 rfl ?_
      refine xs_goto (t := 291) dL_law_287 (by decide) ?_
      refine xs_swap ?_
      refine xs_callF 0 (c_Mo_find am cA m (f (i + 1)) true hz) rfl rfl dL_law_291 kwl_Mo_find ⟨Nat.le_of_ble_eq_true rfl, Nat.le_of_ble_eq_true rfl⟩ rfl rfl rfl (Nat.le_of_ble_eq_true rfl) ⟨(by show k + 1 ≤ 1053; omega), (by show n + 6 ≤ 50707; omega)⟩ ?_
      refine xs_swap ?_
      refine xs_istore (L' := [(6, _), (5, _), (4, _), (3, _), (2, _), (1, _), (0, _)]) dL_law_294 (by decide) rfl ?_
      refine xs_aload_n 4 dL_law_296 rfl ?_
      refine xs_swap ?_
      refine xs_callF 0 (c_Mo_thrown am cA _) rfl rfl dL_law_297 kwl_Mo_thrown ⟨Nat.le_of_ble_eq_true rfl, Nat.le_of_ble_eq_true rfl⟩ rfl rfl rfl (Nat.le_of_ble_eq_true rfl) ⟨(by show k + 1 ≤ 1053; omega), (by show n + 6 ≤ 50707; omega)⟩ ?_
      refine xs_swap ?_
      refine xs_iload 1 dL_law_300 rfl ?_
      refine xs_icmp_eq (t := 307) dL_law_302 (by decide) (fun c302 => ?_) (fun c302 => absurd e2 c302)
      refine xs_iload 1 dL_law_307 rfl ?_
      refine xs_if_ne (t := 324) dL_law_309 (by decide) (fun c309 => ?_) (fun c309 => absurd c309 (by decide))
      refine xs_goto (t := 596) dL_law_324 (by decide) ?_
      refine xs_sub (L' := [(4, .int (nI i)), (3, .ref o), (2, .ref (am 0)), (1, .ref (ad 0)), (0, .ref b)]) [2, 3, 4, 5, 6] rfl ?_
      exact nx _ _ _ _ _ _ e3 (by show k + 1 ≤ k + 1; omega) (by show n + 6 ≤ n + 6; omega)
    · obtain ⟨e1, e2, kv1, e3⟩ := tR hf
      refine xs_aload_n 3 dL_law_243 rfl ?_
      refine xs_aload_n 4 dL_law_244 rfl ?_
      refine xs_iload 0 dL_law_245 rfl ?_
      refine xs_iconst (v := nI 1) dL_law_247 rfl ?_
      refine xs_iadd dL_law_248 ?_
      refine xs_top (nI_add _ _) ?_
      refine xs_sld hX hN dL_law_249 (by omega) ?_
      refine xs_aload_n 4 dL_law_250 rfl ?_
      refine xs_iload 0 dL_law_251 rfl ?_
      refine xs_iconst (v := nI 2) dL_law_253 rfl ?_
      refine xs_iadd dL_law_254 ?_
      refine xs_top (nI_add _ _) ?_
      refine xs_sld hX hN dL_law_255 (by omega) ?_
      refine xs_if_eq (t := 263) dL_law_256 (by decide) (fun c256 => absurd c256 hb) (fun c256 => ?_)
      refine xs_iconst (v := zb true) dL_law_259 rfl ?_
      refine xs_goto (t := 264) dL_law_260 (by decide) ?_
      refine xs_aload_n 1 dL_law_264 rfl ?_
      refine xs_callW (chR_find ad cA cL o s g (f (i + 1)) true hr hf) hty hE dL_law_265 kwW_find ⟨Nat.le_of_ble_eq_true rfl, Nat.le_of_ble_eq_true rfl⟩ rfl (Nat.le_of_ble_eq_true rfl) ⟨(by show k + 0 ≤ 1053; omega), (by show n + 0 ≤ 50707; omega)⟩ ?_
      refine xs_istore (L' := [(5, _), (4, _), (3, _), (2, _), (1, _), (0, _)]) dL_law_268 (by decide) rfl ?_
      refine xs_aload_n 3 dL_law_270 rfl ?_
      refine xs_aload_n 5 dL_law_271 rfl ?_
      refine xs_iload 1 dL_law_272 rfl ?_
      refine xs_iconst (v := nI 1) dL_law_274 rfl ?_
      refine xs_iadd dL_law_275 ?_
      refine xs_top (nI_add _ _) ?_
      refine xs_sld hX hN dL_law_276 (by omega) ?_
      refine xs_aload_n 5 dL_law_277 rfl ?_
      refine xs_iload 1 dL_law_278 rfl ?_
      refine xs_iconst (v := nI 2) dL_law_280 rfl ?_
      refine xs_iadd dL_law_281 ?_
      refine xs_top (nI_add _ _) ?_
      refine xs_sld hX hN dL_law_282 (by omega) ?_
      refine xs_if_eq (t := 290) dL_law_283 (by decide) (fun c283 => absurd c283 hb) (fun c283 => ?_)
      refine xs_iconst (v := zb true) dL_law_286 rfl ?_
      refine xs_goto (t := 291) dL_law_287 (by decide) ?_
      refine xs_swap ?_
      refine xs_callF 0 (c_Mo_find am cA m (f (i + 1)) true hz) rfl rfl dL_law_291 kwl_Mo_find ⟨Nat.le_of_ble_eq_true rfl, Nat.le_of_ble_eq_true rfl⟩ rfl rfl rfl (Nat.le_of_ble_eq_true rfl) ⟨(by show k + 0 ≤ 1053; omega), (by show n + 0 ≤ 50707; omega)⟩ ?_
      refine xs_swap ?_
      refine xs_istore (L' := [(6, _), (5, _), (4, _), (3, _), (2, _), (1, _), (0, _)]) dL_law_294 (by decide) rfl ?_
      refine xs_aload_n 4 dL_law_296 rfl ?_
      refine xs_swap ?_
      refine xs_callF 0 (c_Mo_thrown am cA _) rfl rfl dL_law_297 kwl_Mo_thrown ⟨Nat.le_of_ble_eq_true rfl, Nat.le_of_ble_eq_true rfl⟩ rfl rfl rfl (Nat.le_of_ble_eq_true rfl) ⟨(by show k + 0 ≤ 1053; omega), (by show n + 0 ≤ 50707; omega)⟩ ?_
      refine xs_swap ?_
      refine xs_iload 1 dL_law_300 rfl ?_
      refine xs_icmp_eq (t := 307) dL_law_302 (by decide) (fun c302 => ?_) (fun c302 => absurd e2 c302)
      refine xs_iload 1 dL_law_307 rfl ?_
      refine xs_if_ne (t := 324) dL_law_309 (by decide) (fun c309 => absurd rfl c309) (fun c309 => ?_)
      refine xs_aload_n 3 dL_law_312 rfl ?_
      refine xs_iconst (v := 0) dL_law_313 (by decide) ?_
      refine xs_lald 17 hty dL_law_314 rfl xin01 rfl ?_
      refine xs_iload 0 dL_law_315 rfl ?_
      refine xs_i2l dL_law_317 ?_
      refine xs_lcmp0 (congrArg Int32.toInt64 e1).symm dL_law_318 ?_
      refine xs_if_eq (t := 324) dL_law_319 (by decide) (fun c319 => ?_) (fun c319 => absurd rfl c319)
      refine xs_goto (t := 596) dL_law_324 (by decide) ?_
      refine xs_sub (L' := [(4, .int (nI i)), (3, .ref o), (2, .ref (am 0)), (1, .ref (ad 0)), (0, .ref b)]) [2, 3, 4, 5, 6] rfl ?_
      exact nx _ _ _ _ _ _ e3 (by show k + 0 ≤ k + 1; omega) (by show n + 0 ≤ n + 6; omega)
set_option maxHeartbeats 4000000 in
set_option maxRecDepth 100000 in
theorem lw_c_fill {X : xz_X} {cA cL : ClassId} {ad am : Nat → Nat} {b o N i k n : Nat} {f : Nat → Int32} (hty : xty X = [(cL, .long)]) (hE : xEl X) (hX : xscr X b N f) (hN : N ≤ 2048) (hi : i + 4 ≤ N) (hk : k + 1 ≤ 1053) (hn : n + 6 ≤ 50707) (nx : ∀ (s : zT) (m : zM) (kv : List (Int32 × Int32)) (g : Nat → Int64) (k' n' : Nat), Rl s m kv → k' ≤ k + 1 → n' ≤ n + 6 → xs X cA RL code 8 ret room_1 (wo ad cA cL o s g ++ wm am cA m) k' n' 596 [(4, .int (nI i)), (3, .ref o), (2, .ref (am 0)), (1, .ref (ad 0)), (0, .ref b)] []) {s : zT} {m : zM} {kv : List (Int32 × Int32)} {g : Nat → Int64} (h : Rl s m kv) : xs X cA RL code 8 ret room_1 (wo ad cA cL o s g ++ wm am cA m) k n 352 [(4, .int (nI i)), (3, .ref o), (2, .ref (am 0)), (1, .ref (ad 0)), (0, .ref b)] [] := by
  have hr := (Ab_cnt h.1).2.2.1
  have hz := (Rl_z h).2.2.2
  have hmr := h.2.2.2.2.2.2
  obtain ⟨tf, tR, tT⟩ := T_fill (f (i + 1)) (f (i + 2)) (f (i + 3)) h
  by_cases hc : ¬ (f (i + 3)) < 0 ∧ (f (i + 3)) ≤ 2000
  · obtain ⟨e1, e2, kv1, e3⟩ := tR hc.1 hc.2
    refine xs_aload_n 3 dL_law_352 rfl ?_
    refine xs_aload_n 4 dL_law_353 rfl ?_
    refine xs_iload 0 dL_law_354 rfl ?_
    refine xs_iconst (v := nI 1) dL_law_356 rfl ?_
    refine xs_iadd dL_law_357 ?_
    refine xs_top (nI_add _ _) ?_
    refine xs_sld hX hN dL_law_358 (by omega) ?_
    refine xs_aload_n 4 dL_law_359 rfl ?_
    refine xs_iload 0 dL_law_360 rfl ?_
    refine xs_iconst (v := nI 2) dL_law_362 rfl ?_
    refine xs_iadd dL_law_363 ?_
    refine xs_top (nI_add _ _) ?_
    refine xs_sld hX hN dL_law_364 (by omega) ?_
    refine xs_aload_n 4 dL_law_365 rfl ?_
    refine xs_iload 0 dL_law_366 rfl ?_
    refine xs_iconst (v := nI 3) dL_law_368 rfl ?_
    refine xs_iadd dL_law_369 ?_
    refine xs_top (nI_add _ _) ?_
    refine xs_sld hX hN dL_law_370 (by omega) ?_
    refine xs_aload_n 1 dL_law_371 rfl ?_
    refine xs_callW (chR_fill ad cA cL o s g (f (i + 1)) (f (i + 2)) (f (i + 3)) hr hc.1 hc.2) hty hE dL_law_372 kwW_fill ⟨Nat.le_of_ble_eq_true rfl, Nat.le_of_ble_eq_true rfl⟩ rfl (Nat.le_of_ble_eq_true rfl) ⟨(by show k + 0 ≤ 1053; omega), (by show n + 0 ≤ 50707; omega)⟩ ?_
    refine xs_istore (L' := [(5, _), (4, _), (3, _), (2, _), (1, _), (0, _)]) dL_law_375 (by decide) rfl ?_
    refine xs_aload_n 3 dL_law_377 rfl ?_
    refine xs_aload_n 5 dL_law_378 rfl ?_
    refine xs_iload 1 dL_law_379 rfl ?_
    refine xs_iconst (v := nI 1) dL_law_381 rfl ?_
    refine xs_iadd dL_law_382 ?_
    refine xs_top (nI_add _ _) ?_
    refine xs_sld hX hN dL_law_383 (by omega) ?_
    refine xs_aload_n 5 dL_law_384 rfl ?_
    refine xs_iload 1 dL_law_385 rfl ?_
    refine xs_iconst (v := nI 2) dL_law_387 rfl ?_
    refine xs_iadd dL_law_388 ?_
    refine xs_top (nI_add _ _) ?_
    refine xs_sld hX hN dL_law_389 (by omega) ?_
    refine xs_aload_n 5 dL_law_390 rfl ?_
    refine xs_iload 1 dL_law_391 rfl ?_
    refine xs_iconst (v := nI 3) dL_law_393 rfl ?_
    refine xs_iadd dL_law_394 ?_
    refine xs_top (nI_add _ _) ?_
    refine xs_sld hX hN dL_law_395 (by omega) ?_
    refine xs_swap ?_
    refine xs_callF 0 (c_Mo_fill am cA m (f (i + 1)) (f (i + 2)) (f (i + 3)) tf) rfl rfl dL_law_396 kwl_Mo_fill ⟨Nat.le_of_ble_eq_true rfl, Nat.le_of_ble_eq_true rfl⟩ rfl rfl rfl (Nat.le_of_ble_eq_true rfl) ⟨(by show k + 0 ≤ 1053; omega), (by show n + 0 ≤ 50707; omega)⟩ ?_
    refine xs_swap ?_
    refine xs_istore (L' := [(6, _), (5, _), (4, _), (3, _), (2, _), (1, _), (0, _)]) dL_law_399 (by decide) rfl ?_
    refine xs_aload_n 4 dL_law_401 rfl ?_
    refine xs_swap ?_
    refine xs_callF 0 (c_Mo_thrown am cA _) rfl rfl dL_law_402 kwl_Mo_thrown ⟨Nat.le_of_ble_eq_true rfl, Nat.le_of_ble_eq_true rfl⟩ rfl rfl rfl (Nat.le_of_ble_eq_true rfl) ⟨(by show k + 0 ≤ 1053; omega), (by show n + 0 ≤ 50707; omega)⟩ ?_
    refine xs_swap ?_
    refine xs_iload 1 dL_law_405 rfl ?_
    refine xs_icmp_eq (t := 412) dL_law_407 (by decide) (fun c407 => ?_) (fun c407 => absurd e2 c407)
    refine xs_iload 1 dL_law_412 rfl ?_
    refine xs_if_ne (t := 429) dL_law_414 (by decide) (fun c414 => absurd rfl c414) (fun c414 => ?_)
    refine xs_aload_n 3 dL_law_417 rfl ?_
    refine xs_iconst (v := 0) dL_law_418 (by decide) ?_
    refine xs_lald 17 hty dL_law_419 rfl xin01 rfl ?_
    refine xs_iload 0 dL_law_420 rfl ?_
    refine xs_i2l dL_law_422 ?_
    refine xs_lcmp0 (congrArg Int32.toInt64 e1).symm dL_law_423 ?_
    refine xs_if_eq (t := 429) dL_law_424 (by decide) (fun c424 => ?_) (fun c424 => absurd rfl c424)
    refine xs_goto (t := 596) dL_law_429 (by decide) ?_
    refine xs_sub (L' := [(4, .int (nI i)), (3, .ref o), (2, .ref (am 0)), (1, .ref (ad 0)), (0, .ref b)]) [2, 3, 4, 5, 6] rfl ?_
    exact nx _ _ _ _ _ _ e3 (by show k + 0 ≤ k + 1; omega) (by show n + 0 ≤ n + 6; omega)
  · have hd : (f (i + 3)) < 0 ∨ ¬ (f (i + 3)) ≤ 2000 := by
      by_cases d1 : (f (i + 3)) < 0
      · exact Or.inl d1
      · exact Or.inr (fun d2 => hc ⟨d1, d2⟩)
    obtain ⟨e2, e3⟩ := tT hd
    refine xs_aload_n 3 dL_law_352 rfl ?_
    refine xs_aload_n 4 dL_law_353 rfl ?_
    refine xs_iload 0 dL_law_354 rfl ?_
    refine xs_iconst (v := nI 1) dL_law_356 rfl ?_
    refine xs_iadd dL_law_357 ?_
    refine xs_top (nI_add _ _) ?_
    refine xs_sld hX hN dL_law_358 (by omega) ?_
    refine xs_aload_n 4 dL_law_359 rfl ?_
    refine xs_iload 0 dL_law_360 rfl ?_
    refine xs_iconst (v := nI 2) dL_law_362 rfl ?_
    refine xs_iadd dL_law_363 ?_
    refine xs_top (nI_add _ _) ?_
    refine xs_sld hX hN dL_law_364 (by omega) ?_
    refine xs_aload_n 4 dL_law_365 rfl ?_
    refine xs_iload 0 dL_law_366 rfl ?_
    refine xs_iconst (v := nI 3) dL_law_368 rfl ?_
    refine xs_iadd dL_law_369 ?_
    refine xs_top (nI_add _ _) ?_
    refine xs_sld hX hN dL_law_370 (by omega) ?_
    refine xs_aload_n 1 dL_law_371 rfl ?_
    refine xs_callW (chT_fill ad cA cL o s g (f (i + 1)) (f (i + 2)) (f (i + 3)) hd) hty hE dL_law_372 kwW_fill ⟨Nat.le_of_ble_eq_true rfl, Nat.le_of_ble_eq_true rfl⟩ rfl (Nat.le_of_ble_eq_true rfl) ⟨(by show k + 1 ≤ 1053; omega), (by show n + 6 ≤ 50707; omega)⟩ ?_
    refine xs_istore (L' := [(5, _), (4, _), (3, _), (2, _), (1, _), (0, _)]) dL_law_375 (by decide) rfl ?_
    refine xs_aload_n 3 dL_law_377 rfl ?_
    refine xs_aload_n 5 dL_law_378 rfl ?_
    refine xs_iload 1 dL_law_379 rfl ?_
    refine xs_iconst (v := nI 1) dL_law_381 rfl ?_
    refine xs_iadd dL_law_382 ?_
    refine xs_top (nI_add _ _) ?_
    refine xs_sld hX hN dL_law_383 (by omega) ?_
    refine xs_aload_n 5 dL_law_384 rfl ?_
    refine xs_iload 1 dL_law_385 rfl ?_
    refine xs_iconst (v := nI 2) dL_law_387 rfl ?_
    refine xs_iadd dL_law_388 ?_
    refine xs_top (nI_add _ _) ?_
    refine xs_sld hX hN dL_law_389 (by omega) ?_
    refine xs_aload_n 5 dL_law_390 rfl ?_
    refine xs_iload 1 dL_law_391 rfl ?_
    refine xs_iconst (v := nI 3) dL_law_393 rfl ?_
    refine xs_iadd dL_law_394 ?_
    refine xs_top (nI_add _ _) ?_
    refine xs_sld hX hN dL_law_395 (by omega) ?_
    refine xs_swap ?_
    refine xs_callF 0 (c_Mo_fill am cA m (f (i + 1)) (f (i + 2)) (f (i + 3)) tf) rfl rfl dL_law_396 kwl_Mo_fill ⟨Nat.le_of_ble_eq_true rfl, Nat.le_of_ble_eq_true rfl⟩ rfl rfl rfl (Nat.le_of_ble_eq_true rfl) ⟨(by show k + 1 ≤ 1053; omega), (by show n + 6 ≤ 50707; omega)⟩ ?_
    refine xs_swap ?_
    refine xs_istore (L' := [(6, _), (5, _), (4, _), (3, _), (2, _), (1, _), (0, _)]) dL_law_399 (by decide) rfl ?_
    refine xs_aload_n 4 dL_law_401 rfl ?_
    refine xs_swap ?_
    refine xs_callF 0 (c_Mo_thrown am cA _) rfl rfl dL_law_402 kwl_Mo_thrown ⟨Nat.le_of_ble_eq_true rfl, Nat.le_of_ble_eq_true rfl⟩ rfl rfl rfl (Nat.le_of_ble_eq_true rfl) ⟨(by show k + 1 ≤ 1053; omega), (by show n + 6 ≤ 50707; omega)⟩ ?_
    refine xs_swap ?_
    refine xs_iload 1 dL_law_405 rfl ?_
    refine xs_icmp_eq (t := 412) dL_law_407 (by decide) (fun c407 => ?_) (fun c407 => absurd e2 c407)
    refine xs_iload 1 dL_law_412 rfl ?_
    refine xs_if_ne (t := 429) dL_law_414 (by decide) (fun c414 => ?_) (fun c414 => absurd c414 (by decide))
    refine xs_goto (t := 596) dL_law_429 (by decide) ?_
    refine xs_sub (L' := [(4, .int (nI i)), (3, .ref o), (2, .ref (am 0)), (1, .ref (ad 0)), (0, .ref b)]) [2, 3, 4, 5, 6] rfl ?_
    exact nx _ _ _ _ _ _ e3 (by show k + 1 ≤ k + 1; omega) (by show n + 6 ≤ n + 6; omega)
set_option maxHeartbeats 4000000 in
set_option maxRecDepth 100000 in
theorem lw_c_at {X : xz_X} {cA cL : ClassId} {ad am : Nat → Nat} {b o N i k n : Nat} {f : Nat → Int32} (hty : xty X = [(cL, .long)]) (hE : xEl X) (hX : xscr X b N f) (hN : N ≤ 2048) (hi : i + 4 ≤ N) (hk : k + 1 ≤ 1053) (hn : n + 6 ≤ 50707) (nx : ∀ (s : zT) (m : zM) (kv : List (Int32 × Int32)) (g : Nat → Int64) (k' n' : Nat), Rl s m kv → k' ≤ k + 1 → n' ≤ n + 6 → xs X cA RL code 8 ret room_1 (wo ad cA cL o s g ++ wm am cA m) k' n' 596 [(4, .int (nI i)), (3, .ref o), (2, .ref (am 0)), (1, .ref (ad 0)), (0, .ref b)] []) {s : zT} {m : zM} {kv : List (Int32 × Int32)} {g : Nat → Int64} (h : Rl s m kv) : xs X cA RL code 8 ret room_1 (wo ad cA cL o s g ++ wm am cA m) k n 432 [(4, .int (nI i)), (3, .ref o), (2, .ref (am 0)), (1, .ref (ad 0)), (0, .ref b)] [] := by
  have hr := (Ab_cnt h.1).2.2.1
  have hz := (Rl_z h).2.2.2
  have hmr := h.2.2.2.2.2.2
  obtain ⟨tl, tR, tT⟩ := T_at (f (i + 1)) h
  by_cases hc : ¬ (f (i + 1)) < 0 ∧ (f (i + 1)) < s.2 4 2
  · obtain ⟨e1, e2, e3⟩ := tR hc.1 hc.2
    refine xs_aload_n 3 dL_law_432 rfl ?_
    refine xs_aload_n 4 dL_law_433 rfl ?_
    refine xs_iload 0 dL_law_434 rfl ?_
    refine xs_iconst (v := nI 1) dL_law_436 rfl ?_
    refine xs_iadd dL_law_437 ?_
    refine xs_top (nI_add _ _) ?_
    refine xs_sld hX hN dL_law_438 (by omega) ?_
    refine xs_aload_n 1 dL_law_439 rfl ?_
    refine xs_callW (chR_at ad cA cL o s g (f (i + 1)) hr hc.1 hc.2) hty hE dL_law_440 kwW_at ⟨Nat.le_of_ble_eq_true rfl, Nat.le_of_ble_eq_true rfl⟩ rfl (Nat.le_of_ble_eq_true rfl) ⟨(by show k + 0 ≤ 1053; omega), (by show n + 0 ≤ 50707; omega)⟩ ?_
    refine xs_istore (L' := [(5, _), (4, _), (3, _), (2, _), (1, _), (0, _)]) dL_law_443 (by decide) rfl ?_
    refine xs_aload_n 3 dL_law_445 rfl ?_
    refine xs_aload_n 5 dL_law_446 rfl ?_
    refine xs_iload 1 dL_law_447 rfl ?_
    refine xs_iconst (v := nI 1) dL_law_449 rfl ?_
    refine xs_iadd dL_law_450 ?_
    refine xs_top (nI_add _ _) ?_
    refine xs_sld hX hN dL_law_451 (by omega) ?_
    refine xs_swap ?_
    refine xs_callF 0 (c_Mo_at am cA m (f (i + 1)) hz hmr tl) rfl rfl dL_law_452 kwl_Mo_at ⟨Nat.le_of_ble_eq_true rfl, Nat.le_of_ble_eq_true rfl⟩ rfl rfl rfl (Nat.le_of_ble_eq_true rfl) ⟨(by show k + 0 ≤ 1053; omega), (by show n + 0 ≤ 50707; omega)⟩ ?_
    refine xs_swap ?_
    refine xs_istore (L' := [(6, _), (5, _), (4, _), (3, _), (2, _), (1, _), (0, _)]) dL_law_455 (by decide) rfl ?_
    refine xs_aload_n 4 dL_law_457 rfl ?_
    refine xs_swap ?_
    refine xs_callF 0 (c_Mo_thrown am cA _) rfl rfl dL_law_458 kwl_Mo_thrown ⟨Nat.le_of_ble_eq_true rfl, Nat.le_of_ble_eq_true rfl⟩ rfl rfl rfl (Nat.le_of_ble_eq_true rfl) ⟨(by show k + 0 ≤ 1053; omega), (by show n + 0 ≤ 50707; omega)⟩ ?_
    refine xs_swap ?_
    refine xs_iload 1 dL_law_461 rfl ?_
    refine xs_icmp_eq (t := 468) dL_law_463 (by decide) (fun c463 => ?_) (fun c463 => absurd e2 c463)
    refine xs_iload 1 dL_law_468 rfl ?_
    refine xs_if_ne (t := 485) dL_law_470 (by decide) (fun c470 => absurd rfl c470) (fun c470 => ?_)
    refine xs_aload_n 3 dL_law_473 rfl ?_
    refine xs_iconst (v := 0) dL_law_474 (by decide) ?_
    refine xs_lald 17 hty dL_law_475 rfl xin01 rfl ?_
    refine xs_iload 0 dL_law_476 rfl ?_
    refine xs_i2l dL_law_478 ?_
    refine xs_lcmp0 (congrArg Int32.toInt64 e1).symm dL_law_479 ?_
    refine xs_if_eq (t := 485) dL_law_480 (by decide) (fun c480 => ?_) (fun c480 => absurd rfl c480)
    refine xs_goto (t := 596) dL_law_485 (by decide) ?_
    refine xs_sub (L' := [(4, .int (nI i)), (3, .ref o), (2, .ref (am 0)), (1, .ref (ad 0)), (0, .ref b)]) [2, 3, 4, 5, 6] rfl ?_
    exact nx _ _ _ _ _ _ e3 (by show k + 0 ≤ k + 1; omega) (by show n + 0 ≤ n + 6; omega)
  · have hd : (f (i + 1)) < 0 ∨ ¬ (f (i + 1)) < s.2 4 2 := by
      by_cases d1 : (f (i + 1)) < 0
      · exact Or.inl d1
      · exact Or.inr (fun d2 => hc ⟨d1, d2⟩)
    obtain ⟨e2, e3⟩ := tT hd
    refine xs_aload_n 3 dL_law_432 rfl ?_
    refine xs_aload_n 4 dL_law_433 rfl ?_
    refine xs_iload 0 dL_law_434 rfl ?_
    refine xs_iconst (v := nI 1) dL_law_436 rfl ?_
    refine xs_iadd dL_law_437 ?_
    refine xs_top (nI_add _ _) ?_
    refine xs_sld hX hN dL_law_438 (by omega) ?_
    refine xs_aload_n 1 dL_law_439 rfl ?_
    refine xs_callW (chT_at ad cA cL o s g (f (i + 1)) hd) hty hE dL_law_440 kwW_at ⟨Nat.le_of_ble_eq_true rfl, Nat.le_of_ble_eq_true rfl⟩ rfl (Nat.le_of_ble_eq_true rfl) ⟨(by show k + 1 ≤ 1053; omega), (by show n + 6 ≤ 50707; omega)⟩ ?_
    refine xs_istore (L' := [(5, _), (4, _), (3, _), (2, _), (1, _), (0, _)]) dL_law_443 (by decide) rfl ?_
    refine xs_aload_n 3 dL_law_445 rfl ?_
    refine xs_aload_n 5 dL_law_446 rfl ?_
    refine xs_iload 1 dL_law_447 rfl ?_
    refine xs_iconst (v := nI 1) dL_law_449 rfl ?_
    refine xs_iadd dL_law_450 ?_
    refine xs_top (nI_add _ _) ?_
    refine xs_sld hX hN dL_law_451 (by omega) ?_
    refine xs_swap ?_
    refine xs_callF 0 (c_Mo_at am cA m (f (i + 1)) hz hmr tl) rfl rfl dL_law_452 kwl_Mo_at ⟨Nat.le_of_ble_eq_true rfl, Nat.le_of_ble_eq_true rfl⟩ rfl rfl rfl (Nat.le_of_ble_eq_true rfl) ⟨(by show k + 1 ≤ 1053; omega), (by show n + 6 ≤ 50707; omega)⟩ ?_
    refine xs_swap ?_
    refine xs_istore (L' := [(6, _), (5, _), (4, _), (3, _), (2, _), (1, _), (0, _)]) dL_law_455 (by decide) rfl ?_
    refine xs_aload_n 4 dL_law_457 rfl ?_
    refine xs_swap ?_
    refine xs_callF 0 (c_Mo_thrown am cA _) rfl rfl dL_law_458 kwl_Mo_thrown ⟨Nat.le_of_ble_eq_true rfl, Nat.le_of_ble_eq_true rfl⟩ rfl rfl rfl (Nat.le_of_ble_eq_true rfl) ⟨(by show k + 1 ≤ 1053; omega), (by show n + 6 ≤ 50707; omega)⟩ ?_
    refine xs_swap ?_
    refine xs_iload 1 dL_law_461 rfl ?_
    refine xs_icmp_eq (t := 468) dL_law_463 (by decide) (fun c463 => ?_) (fun c463 => absurd e2 c463)
    refine xs_iload 1 dL_law_468 rfl ?_
    refine xs_if_ne (t := 485) dL_law_470 (by decide) (fun c470 => ?_) (fun c470 => absurd c470 (by decide))
    refine xs_goto (t := 596) dL_law_485 (by decide) ?_
    refine xs_sub (L' := [(4, .int (nI i)), (3, .ref o), (2, .ref (am 0)), (1, .ref (ad 0)), (0, .ref b)]) [2, 3, 4, 5, 6] rfl ?_
    exact nx _ _ _ _ _ _ e3 (by show k + 1 ≤ k + 1; omega) (by show n + 6 ≤ n + 6; omega)
set_option maxHeartbeats 4000000 in
set_option maxRecDepth 100000 in
theorem lw_c_after {X : xz_X} {cA cL : ClassId} {ad am : Nat → Nat} {b o N i k n : Nat} {f : Nat → Int32} (hty : xty X = [(cL, .long)]) (hE : xEl X) (hX : xscr X b N f) (hN : N ≤ 2048) (hi : i + 4 ≤ N) (hk : k + 1 ≤ 1053) (hn : n + 6 ≤ 50707) (nx : ∀ (s : zT) (m : zM) (kv : List (Int32 × Int32)) (g : Nat → Int64) (k' n' : Nat), Rl s m kv → k' ≤ k + 1 → n' ≤ n + 6 → xs X cA RL code 8 ret room_1 (wo ad cA cL o s g ++ wm am cA m) k' n' 596 [(4, .int (nI i)), (3, .ref o), (2, .ref (am 0)), (1, .ref (ad 0)), (0, .ref b)] []) {s : zT} {m : zM} {kv : List (Int32 × Int32)} {g : Nat → Int64} (h : Rl s m kv) : xs X cA RL code 8 ret room_1 (wo ad cA cL o s g ++ wm am cA m) k n 488 [(4, .int (nI i)), (3, .ref o), (2, .ref (am 0)), (1, .ref (ad 0)), (0, .ref b)] [] := by
  have hr := (Ab_cnt h.1).2.2.1
  have hz := (Rl_z h).2.2.2
  have hmr := h.2.2.2.2.2.2
  obtain ⟨tl, tR, tT⟩ := T_after (f (i + 1)) h
  by_cases hf : mBM_after s (f (i + 1)) = 0
  · obtain ⟨e2, e3⟩ := tT hf
    refine xs_aload_n 3 dL_law_488 rfl ?_
    refine xs_aload_n 4 dL_law_489 rfl ?_
    refine xs_iload 0 dL_law_490 rfl ?_
    refine xs_iconst (v := nI 1) dL_law_492 rfl ?_
    refine xs_iadd dL_law_493 ?_
    refine xs_top (nI_add _ _) ?_
    refine xs_sld hX hN dL_law_494 (by omega) ?_
    refine xs_aload_n 1 dL_law_495 rfl ?_
    refine xs_callW (chT_after ad cA cL o s g (f (i + 1)) hr hf) hty hE dL_law_496 kwW_after ⟨Nat.le_of_ble_eq_true rfl, Nat.le_of_ble_eq_true rfl⟩ rfl (Nat.le_of_ble_eq_true rfl) ⟨(by show k + 1 ≤ 1053; omega), (by show n + 6 ≤ 50707; omega)⟩ ?_
    refine xs_istore (L' := [(5, _), (4, _), (3, _), (2, _), (1, _), (0, _)]) dL_law_499 (by decide) rfl ?_
    refine xs_aload_n 3 dL_law_501 rfl ?_
    refine xs_aload_n 5 dL_law_502 rfl ?_
    refine xs_iload 1 dL_law_503 rfl ?_
    refine xs_iconst (v := nI 1) dL_law_505 rfl ?_
    refine xs_iadd dL_law_506 ?_
    refine xs_top (nI_add _ _) ?_
    refine xs_sld hX hN dL_law_507 (by omega) ?_
    refine xs_swap ?_
    refine xs_callF 0 (c_Mo_after am cA m (f (i + 1)) hz hmr tl) rfl rfl dL_law_508 kwl_Mo_after ⟨Nat.le_of_ble_eq_true rfl, Nat.le_of_ble_eq_true rfl⟩ rfl rfl rfl (Nat.le_of_ble_eq_true rfl) ⟨(by show k + 1 ≤ 1053; omega), (by show n + 6 ≤ 50707; omega)⟩ ?_
    refine xs_swap ?_
    refine xs_istore (L' := [(6, _), (5, _), (4, _), (3, _), (2, _), (1, _), (0, _)]) dL_law_511 (by decide) rfl ?_
    refine xs_aload_n 4 dL_law_513 rfl ?_
    refine xs_swap ?_
    refine xs_callF 0 (c_Mo_thrown am cA _) rfl rfl dL_law_514 kwl_Mo_thrown ⟨Nat.le_of_ble_eq_true rfl, Nat.le_of_ble_eq_true rfl⟩ rfl rfl rfl (Nat.le_of_ble_eq_true rfl) ⟨(by show k + 1 ≤ 1053; omega), (by show n + 6 ≤ 50707; omega)⟩ ?_
    refine xs_swap ?_
    refine xs_iload 1 dL_law_517 rfl ?_
    refine xs_icmp_eq (t := 524) dL_law_519 (by decide) (fun c519 => ?_) (fun c519 => absurd e2 c519)
    refine xs_iload 1 dL_law_524 rfl ?_
    refine xs_if_ne (t := 541) dL_law_526 (by decide) (fun c526 => ?_) (fun c526 => absurd c526 (by decide))
    refine xs_goto (t := 596) dL_law_541 (by decide) ?_
    refine xs_sub (L' := [(4, .int (nI i)), (3, .ref o), (2, .ref (am 0)), (1, .ref (ad 0)), (0, .ref b)]) [2, 3, 4, 5, 6] rfl ?_
    exact nx _ _ _ _ _ _ e3 (by show k + 1 ≤ k + 1; omega) (by show n + 6 ≤ n + 6; omega)
  · obtain ⟨e1, e2, e3⟩ := tR hf
    refine xs_aload_n 3 dL_law_488 rfl ?_
    refine xs_aload_n 4 dL_law_489 rfl ?_
    refine xs_iload 0 dL_law_490 rfl ?_
    refine xs_iconst (v := nI 1) dL_law_492 rfl ?_
    refine xs_iadd dL_law_493 ?_
    refine xs_top (nI_add _ _) ?_
    refine xs_sld hX hN dL_law_494 (by omega) ?_
    refine xs_aload_n 1 dL_law_495 rfl ?_
    refine xs_callW (chR_after ad cA cL o s g (f (i + 1)) hr hf) hty hE dL_law_496 kwW_after ⟨Nat.le_of_ble_eq_true rfl, Nat.le_of_ble_eq_true rfl⟩ rfl (Nat.le_of_ble_eq_true rfl) ⟨(by show k + 0 ≤ 1053; omega), (by show n + 0 ≤ 50707; omega)⟩ ?_
    refine xs_istore (L' := [(5, _), (4, _), (3, _), (2, _), (1, _), (0, _)]) dL_law_499 (by decide) rfl ?_
    refine xs_aload_n 3 dL_law_501 rfl ?_
    refine xs_aload_n 5 dL_law_502 rfl ?_
    refine xs_iload 1 dL_law_503 rfl ?_
    refine xs_iconst (v := nI 1) dL_law_505 rfl ?_
    refine xs_iadd dL_law_506 ?_
    refine xs_top (nI_add _ _) ?_
    refine xs_sld hX hN dL_law_507 (by omega) ?_
    refine xs_swap ?_
    refine xs_callF 0 (c_Mo_after am cA m (f (i + 1)) hz hmr tl) rfl rfl dL_law_508 kwl_Mo_after ⟨Nat.le_of_ble_eq_true rfl, Nat.le_of_ble_eq_true rfl⟩ rfl rfl rfl (Nat.le_of_ble_eq_true rfl) ⟨(by show k + 0 ≤ 1053; omega), (by show n + 0 ≤ 50707; omega)⟩ ?_
    refine xs_swap ?_
    refine xs_istore (L' := [(6, _), (5, _), (4, _), (3, _), (2, _), (1, _), (0, _)]) dL_law_511 (by decide) rfl ?_
    refine xs_aload_n 4 dL_law_513 rfl ?_
    refine xs_swap ?_
    refine xs_callF 0 (c_Mo_thrown am cA _) rfl rfl dL_law_514 kwl_Mo_thrown ⟨Nat.le_of_ble_eq_true rfl, Nat.le_of_ble_eq_true rfl⟩ rfl rfl rfl (Nat.le_of_ble_eq_true rfl) ⟨(by show k + 0 ≤ 1053; omega), (by show n + 0 ≤ 50707; omega)⟩ ?_
    refine xs_swap ?_
    refine xs_iload 1 dL_law_517 rfl ?_
    refine xs_icmp_eq (t := 524) dL_law_519 (by decide) (fun c519 => ?_) (fun c519 => absurd e2 c519)
    refine xs_iload 1 dL_law_524 rfl ?_
    refine xs_if_ne (t := 541) dL_law_526 (by decide) (fun c526 => absurd rfl c526) (fun c526 => ?_)
    refine xs_aload_n 3 dL_law_529 rfl ?_
    refine xs_iconst (v := 0) dL_law_530 (by decide) ?_
    refine xs_lald 17 hty dL_law_531 rfl xin01 rfl ?_
    refine xs_iload 0 dL_law_532 rfl ?_
    refine xs_i2l dL_law_534 ?_
    refine xs_lcmp0 (congrArg Int32.toInt64 e1).symm dL_law_535 ?_
    refine xs_if_eq (t := 541) dL_law_536 (by decide) (fun c536 => ?_) (fun c536 => absurd rfl c536)
    refine xs_goto (t := 596) dL_law_541 (by decide) ?_
    refine xs_sub (L' := [(4, .int (nI i)), (3, .ref o), (2, .ref (am 0)), (1, .ref (ad 0)), (0, .ref b)]) [2, 3, 4, 5, 6] rfl ?_
    exact nx _ _ _ _ _ _ e3 (by show k + 0 ≤ k + 1; omega) (by show n + 0 ≤ n + 6; omega)
set_option maxHeartbeats 4000000 in
set_option maxRecDepth 100000 in
theorem lw_c_has {X : xz_X} {cA cL : ClassId} {ad am : Nat → Nat} {b o N i k n : Nat} {f : Nat → Int32} (hty : xty X = [(cL, .long)]) (hE : xEl X) (hX : xscr X b N f) (hN : N ≤ 2048) (hi : i + 4 ≤ N) (hk : k + 1 ≤ 1053) (hn : n + 6 ≤ 50707) (nx : ∀ (s : zT) (m : zM) (kv : List (Int32 × Int32)) (g : Nat → Int64) (k' n' : Nat), Rl s m kv → k' ≤ k + 1 → n' ≤ n + 6 → xs X cA RL code 8 ret room_1 (wo ad cA cL o s g ++ wm am cA m) k' n' 596 [(4, .int (nI i)), (3, .ref o), (2, .ref (am 0)), (1, .ref (ad 0)), (0, .ref b)] []) {s : zT} {m : zM} {kv : List (Int32 × Int32)} {g : Nat → Int64} (h : Rl s m kv) : xs X cA RL code 8 ret room_1 (wo ad cA cL o s g ++ wm am cA m) k n 327 [(4, .int (nI i)), (3, .ref o), (2, .ref (am 0)), (1, .ref (ad 0)), (0, .ref b)] [] := by
  have hr := (Ab_cnt h.1).2.2.1
  have hz := (Rl_z h).2.2.2
  have hmr := h.2.2.2.2.2.2
  refine xs_aload_n 3 dL_law_327 rfl ?_
  refine xs_aload_n 4 dL_law_328 rfl ?_
  refine xs_iload 0 dL_law_329 rfl ?_
  refine xs_iconst (v := nI 1) dL_law_331 rfl ?_
  refine xs_iadd dL_law_332 ?_
  refine xs_top (nI_add _ _) ?_
  refine xs_sld hX hN dL_law_333 (by omega) ?_
  refine xs_ws (List.append_assoc _ _ _) ?_
  refine xs_callF 0 (c_BM_has ad cA s (f (i + 1)) hr) rfl rfl dL_law_334 kwl_BM_has ⟨Nat.le_of_ble_eq_true rfl, Nat.le_of_ble_eq_true rfl⟩ rfl rfl rfl (Nat.le_of_ble_eq_true rfl) ⟨(by show k ≤ 1053; omega), (by show n ≤ 50707; omega)⟩ ?_
  refine xs_ws (List.append_assoc _ _ _).symm ?_
  refine xs_aload_n 2 dL_law_337 rfl ?_
  refine xs_aload_n 4 dL_law_338 rfl ?_
  refine xs_iload 0 dL_law_339 rfl ?_
  refine xs_iconst (v := nI 1) dL_law_341 rfl ?_
  refine xs_iadd dL_law_342 ?_
  refine xs_top (nI_add _ _) ?_
  refine xs_sld hX hN dL_law_343 (by omega) ?_
  refine xs_swap ?_
  refine xs_callF 0 (c_Mo_has am cA m (f (i + 1)) hz) rfl rfl dL_law_344 kwl_Mo_has ⟨Nat.le_of_ble_eq_true rfl, Nat.le_of_ble_eq_true rfl⟩ rfl rfl rfl (Nat.le_of_ble_eq_true rfl) ⟨(by show k ≤ 1053; omega), (by show n ≤ 50707; omega)⟩ ?_
  refine xs_swap ?_
  refine xs_icmp_eq (t := 596) dL_law_347 (by decide) (fun c => ?_) (fun c => absurd (congrArg zb (T_has (f (i + 1)) h).symm) c)
  exact nx _ _ _ _ _ _ (Rl_f 0 h) (by omega) (by omega)
set_option maxHeartbeats 4000000 in
set_option maxRecDepth 100000 in
theorem lw_c_size {X : xz_X} {cA cL : ClassId} {ad am : Nat → Nat} {b o N i k n : Nat} {f : Nat → Int32} (hty : xty X = [(cL, .long)]) (hE : xEl X) (hX : xscr X b N f) (hN : N ≤ 2048) (hi : i + 4 ≤ N) (hk : k + 1 ≤ 1053) (hn : n + 6 ≤ 50707) (nx : ∀ (s : zT) (m : zM) (kv : List (Int32 × Int32)) (g : Nat → Int64) (k' n' : Nat), Rl s m kv → k' ≤ k + 1 → n' ≤ n + 6 → xs X cA RL code 8 ret room_1 (wo ad cA cL o s g ++ wm am cA m) k' n' 596 [(4, .int (nI i)), (3, .ref o), (2, .ref (am 0)), (1, .ref (ad 0)), (0, .ref b)] []) {s : zT} {m : zM} {kv : List (Int32 × Int32)} {g : Nat → Int64} (h : Rl s m kv) : xs X cA RL code 8 ret room_1 (wo ad cA cL o s g ++ wm am cA m) k n 544 [(4, .int (nI i)), (3, .ref o), (2, .ref (am 0)), (1, .ref (ad 0)), (0, .ref b)] [] := by
  have hr := (Ab_cnt h.1).2.2.1
  have hz := (Rl_z h).2.2.2
  have hmr := h.2.2.2.2.2.2
  refine xs_aload_n 3 dL_law_544 rfl ?_
  refine xs_ws (List.append_assoc _ _ _) ?_
  refine xs_callF 0 (c_BM_size ad cA s) rfl rfl dL_law_545 kwl_BM_size ⟨Nat.le_of_ble_eq_true rfl, Nat.le_of_ble_eq_true rfl⟩ rfl rfl rfl (Nat.le_of_ble_eq_true rfl) ⟨(by show k ≤ 1053; omega), (by show n ≤ 50707; omega)⟩ ?_
  refine xs_ws (List.append_assoc _ _ _).symm ?_
  refine xs_aload_n 2 dL_law_548 rfl ?_
  refine xs_swap ?_
  refine xs_callF 0 (c_Mo_size am cA m) rfl rfl dL_law_549 kwl_Mo_size ⟨Nat.le_of_ble_eq_true rfl, Nat.le_of_ble_eq_true rfl⟩ rfl rfl rfl (Nat.le_of_ble_eq_true rfl) ⟨(by show k ≤ 1053; omega), (by show n ≤ 50707; omega)⟩ ?_
  refine xs_swap ?_
  refine xs_icmp_eq (t := 596) dL_law_552 (by decide) (fun c => ?_) (fun c => absurd (T_size h).symm c)
  exact nx _ _ _ _ _ _ (Rl_f 0 h) (by omega) (by omega)
set_option maxHeartbeats 4000000 in
set_option maxRecDepth 100000 in
theorem lw_c_clear {X : xz_X} {cA cL : ClassId} {ad am : Nat → Nat} {b o N i k n : Nat} {f : Nat → Int32} (hty : xty X = [(cL, .long)]) (hE : xEl X) (hX : xscr X b N f) (hN : N ≤ 2048) (hi : i + 4 ≤ N) (hk : k + 1 ≤ 1053) (hn : n + 6 ≤ 50707) (nx : ∀ (s : zT) (m : zM) (kv : List (Int32 × Int32)) (g : Nat → Int64) (k' n' : Nat), Rl s m kv → k' ≤ k + 1 → n' ≤ n + 6 → xs X cA RL code 8 ret room_1 (wo ad cA cL o s g ++ wm am cA m) k' n' 596 [(4, .int (nI i)), (3, .ref o), (2, .ref (am 0)), (1, .ref (ad 0)), (0, .ref b)] []) {s : zT} {m : zM} {kv : List (Int32 × Int32)} {g : Nat → Int64} (h : Rl s m kv) : xs X cA RL code 8 ret room_1 (wo ad cA cL o s g ++ wm am cA m) k n 557 [(4, .int (nI i)), (3, .ref o), (2, .ref (am 0)), (1, .ref (ad 0)), (0, .ref b)] [] := by
  have hr := (Ab_cnt h.1).2.2.1
  have hz := (Rl_z h).2.2.2
  have hmr := h.2.2.2.2.2.2
  refine xs_aload_n 3 dL_law_557 rfl ?_
  refine xs_ws (List.append_assoc _ _ _) ?_
  refine xs_callF 0 (c_BM_clear ad cA s) rfl rfl dL_law_558 kwl_BM_clear ⟨Nat.le_of_ble_eq_true rfl, Nat.le_of_ble_eq_true rfl⟩ rfl rfl rfl (Nat.le_of_ble_eq_true rfl) ⟨(by show k ≤ 1053; omega), (by show n ≤ 50707; omega)⟩ ?_
  refine xs_ws (List.append_assoc _ _ _).symm ?_
  refine xs_aload_n 2 dL_law_561 rfl ?_
  refine xs_swap ?_
  refine xs_callF 0 (c_Mo_clear am cA m) rfl rfl dL_law_562 kwl_Mo_clear ⟨Nat.le_of_ble_eq_true rfl, Nat.le_of_ble_eq_true rfl⟩ rfl rfl rfl (Nat.le_of_ble_eq_true rfl) ⟨(by show k ≤ 1053; omega), (by show n ≤ 50707; omega)⟩ ?_
  refine xs_swap ?_
  refine xs_icmp_eq (t := 596) dL_law_565 (by decide) (fun c => ?_) (fun c => absurd (T_size h).symm c)
  exact nx _ _ _ _ _ _ (T_clear h) (by omega) (by omega)
set_option maxHeartbeats 4000000 in
set_option maxRecDepth 100000 in
theorem lw_c_hash {X : xz_X} {cA cL : ClassId} {ad am : Nat → Nat} {b o N i k n : Nat} {f : Nat → Int32} (hty : xty X = [(cL, .long)]) (hE : xEl X) (hX : xscr X b N f) (hN : N ≤ 2048) (hi : i + 4 ≤ N) (hk : k + 1 ≤ 1053) (hn : n + 6 ≤ 50707) (nx : ∀ (s : zT) (m : zM) (kv : List (Int32 × Int32)) (g : Nat → Int64) (k' n' : Nat), Rl s m kv → k' ≤ k + 1 → n' ≤ n + 6 → xs X cA RL code 8 ret room_1 (wo ad cA cL o s g ++ wm am cA m) k' n' 596 [(4, .int (nI i)), (3, .ref o), (2, .ref (am 0)), (1, .ref (ad 0)), (0, .ref b)] []) {s : zT} {m : zM} {kv : List (Int32 × Int32)} {g : Nat → Int64} (h : Rl s m kv) : xs X cA RL code 8 ret room_1 (wo ad cA cL o s g ++ wm am cA m) k n 570 [(4, .int (nI i)), (3, .ref o), (2, .ref (am 0)), (1, .ref (ad 0)), (0, .ref b)] [] := by
  have hr := (Ab_cnt h.1).2.2.1
  have hz := (Rl_z h).2.2.2
  have hmr := h.2.2.2.2.2.2
  obtain ⟨tl, e1, e3⟩ := T_hash h
  refine xs_aload_n 3 dL_law_570 rfl ?_
  refine xs_ws (List.append_assoc _ _ _) ?_
  refine xs_callF 0 (c_BM_hash ad cA s hr) rfl rfl dL_law_571 kwl_BM_hash ⟨Nat.le_of_ble_eq_true rfl, Nat.le_of_ble_eq_true rfl⟩ rfl rfl rfl (Nat.le_of_ble_eq_true rfl) ⟨(by show k ≤ 1053; omega), (by show n ≤ 50707; omega)⟩ ?_
  refine xs_ws (List.append_assoc _ _ _).symm ?_
  refine xs_aload_n 2 dL_law_574 rfl ?_
  refine xs_swap ?_
  refine xs_callF 0 (c_Mo_hash am cA m hz hmr tl) rfl rfl dL_law_575 kwl_Mo_hash ⟨Nat.le_of_ble_eq_true rfl, Nat.le_of_ble_eq_true rfl⟩ rfl rfl rfl (Nat.le_of_ble_eq_true rfl) ⟨(by show k ≤ 1053; omega), (by show n ≤ 50707; omega)⟩ ?_
  refine xs_swap ?_
  refine xs_icmp_eq (t := 596) dL_law_578 (by decide) (fun c => ?_) (fun c => absurd e1.symm c)
  exact nx _ _ _ _ _ _ e3 (by omega) (by omega)
set_option maxHeartbeats 4000000 in
set_option maxRecDepth 100000 in
theorem lw_c_wrong {X : xz_X} {cA cL : ClassId} {ad am : Nat → Nat} {b o N i k n : Nat} {f : Nat → Int32} (hty : xty X = [(cL, .long)]) (hE : xEl X) (hX : xscr X b N f) (hN : N ≤ 2048) (hi : i + 4 ≤ N) (hk : k + 1 ≤ 1053) (hn : n + 6 ≤ 50707) (nx : ∀ (s : zT) (m : zM) (kv : List (Int32 × Int32)) (g : Nat → Int64) (k' n' : Nat), Rl s m kv → k' ≤ k + 1 → n' ≤ n + 6 → xs X cA RL code 8 ret room_1 (wo ad cA cL o s g ++ wm am cA m) k' n' 596 [(4, .int (nI i)), (3, .ref o), (2, .ref (am 0)), (1, .ref (ad 0)), (0, .ref b)] []) {s : zT} {m : zM} {kv : List (Int32 × Int32)} {g : Nat → Int64} (h : Rl s m kv) : xs X cA RL code 8 ret room_1 (wo ad cA cL o s g ++ wm am cA m) k n 583 [(4, .int (nI i)), (3, .ref o), (2, .ref (am 0)), (1, .ref (ad 0)), (0, .ref b)] [] := by
  have hr := (Ab_cnt h.1).2.2.1
  have hz := (Rl_z h).2.2.2
  have hmr := h.2.2.2.2.2.2
  obtain ⟨e1, e3⟩ := T_wrong h
  refine xs_aload_n 3 dL_law_583 rfl ?_
  refine xs_ws (List.append_assoc _ _ _) ?_
  refine xs_callF 0 (c_BM_wrong ad cA s hr) rfl rfl dL_law_584 kwl_BM_wrong ⟨Nat.le_of_ble_eq_true rfl, Nat.le_of_ble_eq_true rfl⟩ rfl rfl rfl (Nat.le_of_ble_eq_true rfl) ⟨(by show k ≤ 1053; omega), (by show n ≤ 50707; omega)⟩ ?_
  refine xs_ws (List.append_assoc _ _ _).symm ?_
  refine xs_aload_n 2 dL_law_587 rfl ?_
  refine xs_swap ?_
  refine xs_callF 0 (c_Mo_wrong am cA m) rfl rfl dL_law_588 kwl_Mo_wrong ⟨Nat.le_of_ble_eq_true rfl, Nat.le_of_ble_eq_true rfl⟩ rfl rfl rfl (Nat.le_of_ble_eq_true rfl) ⟨(by show k ≤ 1053; omega), (by show n ≤ 50707; omega)⟩ ?_
  refine xs_swap ?_
  refine xs_icmp_eq (t := 596) dL_law_591 (by decide) (fun c => ?_) (fun c => absurd e1 c)
  exact nx _ _ _ _ _ _ e3 (by omega) (by omega)
set_option maxHeartbeats 4000000 in
set_option maxRecDepth 100000 in
theorem lw_switch {X : xz_X} {cA cL : ClassId} {ad am : Nat → Nat} {b o N i k n : Nat} {f : Nat → Int32} (hty : xty X = [(cL, .long)]) (hE : xEl X) (hX : xscr X b N f) (hN : N ≤ 2048) (hi : i + 4 ≤ N) (hk : k + 1 ≤ 1053) (hn : n + 6 ≤ 50707) (nx : ∀ (s : zT) (m : zM) (kv : List (Int32 × Int32)) (g : Nat → Int64) (k' n' : Nat), Rl s m kv → k' ≤ k + 1 → n' ≤ n + 6 → xs X cA RL code 8 ret room_1 (wo ad cA cL o s g ++ wm am cA m) k' n' 596 [(4, .int (nI i)), (3, .ref o), (2, .ref (am 0)), (1, .ref (ad 0)), (0, .ref b)] []) {s : zT} {m : zM} {kv : List (Int32 × Int32)} {g : Nat → Int64} {x : Int32} (h : Rl s m kv) : xs X cA RL code 8 ret room_1 (wo ad cA cL o s g ++ wm am cA m) k n 39 [(4, .int (nI i)), (3, .ref o), (2, .ref (am 0)), (1, .ref (ad 0)), (0, .ref b)] [.int x] := by
  by_cases hx : x.toInt < 0 ∨ 10 < x.toInt
  · refine xs_tabOut (t := 596) dL_law_39 hx (by decide) ?_
    exact nx _ _ _ _ _ _ h (by omega) (by omega)
  · have hx1 : ¬ x.toInt < 0 := fun q => hx (Or.inl q)
    have hx2 : ¬ 10 < x.toInt := fun q => hx (Or.inr q)
    have hx3 : x.toInt = 0 ∨ x.toInt = 1 ∨ x.toInt = 2 ∨ x.toInt = 3 ∨ x.toInt = 4 ∨ x.toInt = 5 ∨ x.toInt = 6 ∨ x.toInt = 7 ∨ x.toInt = 8 ∨ x.toInt = 9 ∨ x.toInt = 10 := by omega
    rcases hx3 with e | e | e | e | e | e | e | e | e | e | e
    · exact xs_tabIn (off := 57) (t := 96) dL_law_39 hx1 hx2 (by rw [e]; rfl) (by decide) (lw_c_make hty hE hX hN hi hk hn nx h)
    · exact xs_tabIn (off := 137) (t := 176) dL_law_39 hx1 hx2 (by rw [e]; rfl) (by decide) (lw_c_put hty hE hX hN hi hk hn nx h)
    · exact xs_tabIn (off := 204) (t := 243) dL_law_39 hx1 hx2 (by rw [e]; rfl) (by decide) (lw_c_find hty hE hX hN hi hk hn nx h)
    · exact xs_tabIn (off := 288) (t := 327) dL_law_39 hx1 hx2 (by rw [e]; rfl) (by decide) (lw_c_has hty hE hX hN hi hk hn nx h)
    · exact xs_tabIn (off := 313) (t := 352) dL_law_39 hx1 hx2 (by rw [e]; rfl) (by decide) (lw_c_fill hty hE hX hN hi hk hn nx h)
    · exact xs_tabIn (off := 393) (t := 432) dL_law_39 hx1 hx2 (by rw [e]; rfl) (by decide) (lw_c_at hty hE hX hN hi hk hn nx h)
    · exact xs_tabIn (off := 449) (t := 488) dL_law_39 hx1 hx2 (by rw [e]; rfl) (by decide) (lw_c_after hty hE hX hN hi hk hn nx h)
    · exact xs_tabIn (off := 505) (t := 544) dL_law_39 hx1 hx2 (by rw [e]; rfl) (by decide) (lw_c_size hty hE hX hN hi hk hn nx h)
    · exact xs_tabIn (off := 518) (t := 557) dL_law_39 hx1 hx2 (by rw [e]; rfl) (by decide) (lw_c_clear hty hE hX hN hi hk hn nx h)
    · exact xs_tabIn (off := 531) (t := 570) dL_law_39 hx1 hx2 (by rw [e]; rfl) (by decide) (lw_c_hash hty hE hX hN hi hk hn nx h)
    · exact xs_tabIn (off := 544) (t := 583) dL_law_39 hx1 hx2 (by rw [e]; rfl) (by decide) (lw_c_wrong hty hE hX hN hi hk hn nx h)
