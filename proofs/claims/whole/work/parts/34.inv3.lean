theorem Ab_cnt {s : zT} {kv : List (Int32 × Int32)} (h : Ab s kv) : s.2 4 2 = nI kv.length ∧ kv.length ≤ 2000 ∧ rok s ∧ FN s := by
  obtain ⟨ln, fr, bn, hI, rfl⟩ := h
  rw [List.length_map]
  exact ⟨hI.1.1.2.2.2.2.2.2, MD_len hI.2, RM_rok hI.1.2.2.2.1, hI.1.2.2.2.2⟩
theorem Ab_mode {s : zT} {kv : List (Int32 × Int32)} (h : Ab s kv) : (s.2 4 0 = 2 ∧ ∃ M, 1 ≤ M ∧ M ≤ 2000 ∧ s.2 4 1 = nI M ∧ kv.length ≤ M) ∨ (s.2 4 0 = 0 ∨ s.2 4 0 = 1) := by
  obtain ⟨ln, fr, bn, hI, rfl⟩ := h
  rw [List.length_map]
  rcases hI.2 with h | h
  · exact Or.inl h
  · exact Or.inr h.1
theorem Ab_none {s : zT} {kv : List (Int32 × Int32)} {k : Int32} (h : Ab s kv) (hk : ∀ e ∈ kv, ¬ e.1 = k) : mBi_find s k = 0 := by
  obtain ⟨ln, fr, bn, hI, rfl⟩ := h
  exact (BI_find hI.1.2.1 k).2 (fun y hy => hk (kn s y) (List.mem_map_of_mem hy))
/-- a key is there: the slot that has it -/
theorem Ab_at {s : zT} {k1 k2 : List (Int32 × Int32)} {k y : Int32} (h : Ab s (k1 ++ (k, y) :: k2)) :
    ∃ (l1 l2 fr : List zS) (bn : zP → List zS), Inv s (l1 ++ mBi_find s k :: l2) fr bn ∧ l1.map (kn s) = k1 ∧ l2.map (kn s) = k2 ∧ kn s (mBi_find s k) = (k, y) ∧ mBi_find s k ≠ 0 ∧ mBi_find s k ∉ l1 ∧ mBi_find s k ∉ l2 := by
  obtain ⟨ln, fr, bn, hI, hm⟩ := h
  obtain ⟨l1, lr, rfl, e1, er⟩ := List.map_eq_append_iff.mp hm
  obtain ⟨a, l2, rfl, ea, e2⟩ := List.map_eq_cons_iff.mp er
  have hf : mBi_find s k = a := (BI_find hI.1.2.1 k).1 a (by simp) (congrArg Prod.fst ea)
  rw [hf]
  have nd := hI.1.2.1.2.2.2.1
  have nd2 := List.nodup_append.mp nd
  exact ⟨l1, l2, fr, bn, hI, e1, e2, ea, hI.1.2.1.2.2.1 a (by simp), fun q => nd2.2.2 a q a List.mem_cons_self rfl, (List.nodup_cons.mp nd2.2.1).1⟩
theorem Ab_change {s : zT} {k1 k2 : List (Int32 × Int32)} {k y : Int32} (x : Int32) (h : Ab s (k1 ++ (k, y) :: k2)) :
    Ab (mBM_change s (mBi_find s k) x) (if s.2 4 0 = 2 then (k1 ++ k2) ++ [(k, x)] else k1 ++ (k, x) :: k2) ∧ sK s (mBM_change s (mBi_find s k) x) ∧ (mBM_change s (mBi_find s k) x).2 4 3 = s.2 4 3 := by
  obtain ⟨l1, l2, fr, bn, hI, e1, e2, ea, a0, h1, h2⟩ := Ab_at h
  generalize mBi_find s k = a at *
  have hN := Inv_num a x hI
  have g0 : ∀ l : List zS, a ∉ l → l.map (kn (u2 s 3 a x)) = l.map (kn s) := fun l hl => map_kn (fun y _ => rfl) (fun y hy => by
    rw [u2_at, if_neg (fun q => hl (by rw [← Fin.ext q]; exact hy))])
  have ga : kn (u2 s 3 a x) a = (k, x) := by
    show (s.2 0 a, (u2 s 3 a x).2 3 a) = (k, x)
    rw [u2_at, if_pos rfl]
    have : s.2 0 a = k := congrArg Prod.fst ea
    rw [this]
  unfold mBM_change mBM_touch
  by_cases c : s.2 4 0 = 2
  · rw [if_pos c, if_pos (show (u2 s 3 a x).2 4 0 = 2 from c)]
    have e := toEnd_2 (u2 s 3 a x) a
    refine ⟨⟨_, fr, bn, Inv_toEnd hN c, ?_⟩, ⟨by rw [e]; rfl, by rw [e]; rfl, by rw [e]; rfl⟩, by rw [e]; rfl⟩
    rw [map_kn (s := u2 s 3 a x) (fun y _ => by rw [e]) (fun y _ => by rw [e]), List.map_append, List.map_append, g0 l1 h1, g0 l2 h2, List.map_singleton, ga, e1, e2]
  · rw [if_neg c, if_neg (show ¬ (u2 s 3 a x).2 4 0 = 2 from c)]
    refine ⟨⟨_, fr, bn, hN, ?_⟩, ⟨rfl, rfl, rfl⟩, rfl⟩
    rw [List.map_append, List.map_cons, g0 l1 h1, g0 l2 h2, ga, e1, e2]
theorem Ab_touch {s : zT} {k1 k2 : List (Int32 × Int32)} {k y : Int32} (h : Ab s (k1 ++ (k, y) :: k2)) :
    Ab (mBM_touch s (mBi_find s k)) (if s.2 4 0 = 2 then (k1 ++ k2) ++ [(k, y)] else k1 ++ (k, y) :: k2) ∧ sK s (mBM_touch s (mBi_find s k)) ∧ (mBM_touch s (mBi_find s k)).2 4 3 = s.2 4 3 := by
  obtain ⟨l1, l2, fr, bn, hI, e1, e2, ea, a0, h1, h2⟩ := Ab_at h
  unfold mBM_touch
  by_cases c : s.2 4 0 = 2
  · rw [if_pos c, if_pos c]
    generalize mBi_find s k = a at *
    have e := toEnd_2 s a
    refine ⟨⟨_, fr, bn, Inv_toEnd hI c, ?_⟩, ⟨by rw [e], by rw [e], by rw [e]⟩, by rw [e]⟩
    rw [map_kn (s := s) (fun y _ => by rw [e]) (fun y _ => by rw [e]), List.map_append, List.map_append, List.map_singleton, ea, e1, e2]
  · rw [if_neg c, if_neg c]
    exact ⟨h, ⟨rfl, rfl, rfl⟩, rfl⟩
theorem Ab_go {s : zT} {k1 k2 : List (Int32 × Int32)} {k y : Int32} (h : Ab s (k1 ++ (k, y) :: k2)) :
    Ab (mBM_go s (mBi_find s k)) (k1 ++ k2) ∧ sK s (mBM_go s (mBi_find s k)) ∧ (mBM_go s (mBi_find s k)).2 4 3 = s.2 4 3 := by
  obtain ⟨l1, l2, fr, bn, hI, e1, e2, ea, a0, h1, h2⟩ := Ab_at h
  generalize mBi_find s k = a at *
  obtain ⟨⟨bn6, i1⟩, i2, i3, i4, i5⟩ := Inv0_go hI.1
  refine ⟨⟨_, _, bn6, ⟨i1, MD_cg hI.2 i2 (by simp)⟩, ?_⟩, i2, i3⟩
  rw [map_kn (s := s) (fun y _ => by rw [i4]) (fun y _ => by rw [i5]), List.map_append, e1, e2]
theorem Ab_fresh {s : zT} {fr : List zS} (hL : LnI s [] fr) (z : s.2 1 0 = 0) (h4 : ∀ p : zP, s.1 4 p = 0) (h5 : ∀ p : zP, s.1 5 p = 0) (hr : rok s) (hF : FN s) (hM : MD s 0) : Ab s [] := by
  obtain ⟨e, he, hs⟩ := hr
  exact ⟨[], fr, fun _ => [], ⟨⟨hL, BI_empty z h4 h5, fun _ _ => rfl, ⟨e, he, hs, Nat.zero_le _⟩, hF⟩, hM⟩, rfl⟩
theorem Ab_clear {s : zT} {kv : List (Int32 × Int32)} (h : Ab s kv) : Ab (mBi_drain (mLn_drain s)) [] ∧ sK s (mBi_drain (mLn_drain s)) ∧ (mBi_drain (mLn_drain s)).2 4 3 = s.2 4 3 := by
  obtain ⟨ln, fr, bn, hI, rfl⟩ := h
  obtain ⟨d2, d4⟩ := ldrain_2 s
  have k : sK s (mBi_drain (mLn_drain s)) := ⟨d4 0 (by decide), d4 1 (by decide), d4 4 (by decide)⟩
  have k3 : (mBi_drain (mLn_drain s)).2 4 3 = s.2 4 3 := d4 3 (by decide)
  refine ⟨Ab_fresh (LnI_cg (LnI_drain hI.1.1) (drain_o _ 0 (by decide) (by decide)) (drain_o _ 1 (by decide) (by decide)) (drain_o _ 9 (by decide) (by decide)) rfl) ?_ (drain_4 _) (drain_5 _) (rok_of k3 (RM_rok hI.1.2.2.2.1)) (FN_cg hI.1.2.2.2.2 k) (MD_cg hI.2 k (Nat.zero_le _)), k, k3⟩
  show (mLn_drain s).2 1 0 = 0
  rw [d2 1 (by decide)]
  exact hI.1.2.1.1
theorem isMode_MD {mode most : Int32} (h : mBM_isMode mode most = true) : (mode = 2 ∧ ∃ M, 1 ≤ M ∧ M ≤ 2000 ∧ most = nI M) ∨ ((mode = 0 ∨ mode = 1) ∧ most = 0) := by
  unfold mBM_isMode at h
  by_cases c : mode = 2
  · rw [if_pos c] at h
    simp only [Bool.and_eq_true, Bool.not_eq_true', decide_eq_false_iff_not] at h
    have c0 : ¬ most < 0 := fun q => h.1 (i32_tr q (by decide))
    obtain ⟨j, hj, e⟩ := nI_of c0
    refine Or.inl ⟨c, j, ?_, ?_, e⟩
    · rcases Nat.lt_or_ge 0 j with g | g
      · exact g
      · have : j = 0 := by omega
        rw [e, this] at h
        exact absurd (show nI 0 < 1 by decide) h.1
    · rcases Nat.lt_or_ge 2000 j with g | g
      · rw [e] at h
        exact absurd ((nI_ltI (a := 2000) (by decide) hj).mpr g) h.2
      · exact g
  · rw [if_neg c] at h
    simp only [Bool.and_eq_true, Bool.not_eq_true', decide_eq_false_iff_not, decide_eq_true_eq] at h
    obtain ⟨j, hj, e⟩ := nI_of h.1
    refine Or.inr ⟨?_, h.2.2⟩
    rcases Nat.lt_or_ge j 2 with g | g
    · have : j = 0 ∨ j = 1 := by omega
      rcases this with q | q
      · exact Or.inl (by rw [e, q]; rfl)
      · exact Or.inr (by rw [e, q]; rfl)
    · rw [e] at h
      exact absurd ((nI_leI (a := 2) (by decide) hj).mpr g) h.2.1
theorem fn_ok {f : Int32} (h2 : ¬ f < 0) (h3 : f ≤ 2) : f = 0 ∨ f = 1 ∨ f = 2 := by
  obtain ⟨j, hj, e⟩ := nI_of h2
  rw [e] at h3
  have := (nI_leI hj (b := 2) (by decide)).mp h3
  have : j = 0 ∨ j = 1 ∨ j = 2 := by omega
  rcases this with q | q | q <;> rw [e, q]
  · exact Or.inl rfl
  · exact Or.inr (Or.inl rfl)
  · exact Or.inr (Or.inr rfl)
theorem Ab_make {s : zT} {kv : List (Int32 × Int32)} {mode f most : Int32} (h : Ab s kv) (h1 : mBM_isMode mode most = true) (h2 : ¬ f < 0) (h3 : f ≤ 2) : Ab (mBM_make s mode f most) [] ∧ (mBM_make s mode f most).2 4 0 = mode ∧ (mBM_make s mode f most).2 4 1 = most ∧ (mBM_make s mode f most).2 4 4 = f ∧ (mBM_make s mode f most).2 4 3 = 16 := by
  obtain ⟨ln, fr, bn, hI, rfl⟩ := h
  obtain ⟨d2, d4⟩ := ldrain_2 s
  have e0 : (mBM_make s mode f most).2 4 0 = mode := by
    unfold mBM_make
    rw [u2_at, if_neg (by decide), u2_at, if_pos rfl]
  have e1 : (mBM_make s mode f most).2 4 1 = most := by
    unfold mBM_make
    rw [u2_at, if_pos rfl]
  have e4 : (mBM_make s mode f most).2 4 4 = f := by
    unfold mBM_make mBi_begin
    rw [u2_at, if_neg (by decide), u2_at, if_neg (by decide), u2_at, if_pos rfl]
  have e3 : (mBM_make s mode f most).2 4 3 = 16 := by
    unfold mBM_make mBi_begin
    rw [u2_at, if_neg (by decide), u2_at, if_neg (by decide), u2_at, if_neg (by decide), u2_at, if_pos rfl]
  have e2 : (mBM_make s mode f most).2 4 2 = (mLn_drain s).2 4 2 := by
    unfold mBM_make mBi_begin
    rw [u2_at, if_neg (by decide), u2_at, if_neg (by decide), u2_at, if_neg (by decide), u2_at, if_neg (by decide)]
    rfl
  have ez : (mBM_make s mode f most).2 1 = s.2 1 := by
    unfold mBM_make mBi_begin
    rw [u2_ne (by decide), u2_ne (by decide), u2_ne (by decide), u2_ne (by decide)]
    exact d2 1 (by decide)
  have er : (mBM_make s mode f most).1 = (mBi_drain (mLn_drain s)).1 := rfl
  refine ⟨Ab_fresh (LnI_cg (LnI_drain hI.1.1) (by rw [er]; exact drain_o _ 0 (by decide) (by decide)) (by rw [er]; exact drain_o _ 1 (by decide) (by decide)) (by rw [er]; exact drain_o _ 9 (by decide) (by decide)) e2) (by rw [ez]; exact hI.1.2.1.1) (by rw [er]; exact drain_4 _) (by rw [er]; exact drain_5 _) ⟨0, by decide, e3⟩ ?_ ?_, e0, e1, e4, e3⟩
  · unfold FN
    rw [e4]
    exact fn_ok h2 h3
  · unfold MD
    rw [e0, e1]
    rcases isMode_MD h1 with ⟨c, M, c1, c2, c3⟩ | ⟨c, -⟩
    · exact Or.inl ⟨c, M, c1, c2, c3, by omega⟩
    · exact Or.inr ⟨c, by omega⟩
theorem Inv_rank {s : zT} {ln fr : List zS} {bn : zP → List zS} (h : Inv s ln fr bn) : Inv (mLn_rank s) ln fr bn := by
  obtain ⟨⟨hL, hB, hE, hR, hF⟩, hM⟩ := h
  obtain ⟨r1, r2, -⟩ := LnI_rank hL
  have k : sK s (mLn_rank s) := ⟨by rw [r2 4 (by decide)], by rw [r2 4 (by decide)], by rw [r2 4 (by decide)]⟩
  refine ⟨⟨LnI_cg hL (by rw [r1]) (by rw [r1]) (by rw [r1]) (by rw [r2 4 (by decide)]), BI_congr (fun q _ _ => by rw [r1]) (r2 1 (by decide)) (by rw [r2 4 (by decide)]) (by rw [r2 4 (by decide)]) (fun x _ => by rw [r2 0 (by decide)]) hB, fun hm => BEx_cg (hE (by rw [← k.1]; exact hm)) (fun x _ => ?_), RM_cg hR (by rw [r2 4 (by decide)]) (Nat.le_refl _), FN_cg hF k⟩, MD_cg hM k (Nat.le_refl _)⟩
  show mBi_place (mLn_rank s) ((mLn_rank s).2 0 x) = mBi_place s (s.2 0 x)
  rw [r2 0 (by decide)]
  exact place_cg (by rw [r2 4 (by decide)]) (by rw [r2 4 (by decide)]) _
theorem Ab_rank {s : zT} {kv : List (Int32 × Int32)} (h : Ab s kv) : Ab (mLn_rank s) kv ∧ sK s (mLn_rank s) ∧ (mLn_rank s).2 4 3 = s.2 4 3 := by
  obtain ⟨ln, fr, bn, hI, rfl⟩ := h
  obtain ⟨r1, r2, -⟩ := LnI_rank hI.1.1
  exact ⟨⟨ln, fr, bn, Inv_rank hI, map_kn (fun x _ => by rw [r2 0 (by decide)]) (fun x _ => by rw [r2 3 (by decide)])⟩, ⟨by rw [r2 4 (by decide)], by rw [r2 4 (by decide)], by rw [r2 4 (by decide)]⟩, by rw [r2 4 (by decide)]⟩
