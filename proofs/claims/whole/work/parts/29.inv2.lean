/-- a slot has come: the line, and the bins, before the room is looked at -/
theorem come_1 {s : zT} {ln fr : List zS} {bn : zP → List zS} {k x : Int32} (h : Inv s ln fr bn) (hk : ∀ y ∈ ln, ¬ s.2 0 y = k) :
    ∃ (a : zS) (fr' : List zS) (bn' : zP → List zS) (s3 : zT), s3 = mBi_add (u2 (u2 (mLn_join s).2 3 (mLn_join s).1 x) 0 (mLn_join s).1 k) (mLn_join s).1 ∧ a ∉ ln ∧
      LnI s3 (ln ++ [a]) fr' ∧ BI s3 (ln ++ [a]) bn' ∧ (s3.2 4 0 ≠ 2 → BEx s3 (ln ++ [a]) bn') ∧ RM s3 ln.length ∧ sK s s3 ∧ s3.2 4 3 = s.2 4 3 ∧ s3.2 0 = zup (s.2 0) a k ∧ s3.2 3 = zup (s.2 3) a x := by
  obtain ⟨⟨hL, hB, hE, hR, hF⟩, hM⟩ := h
  obtain ⟨a, fr', efr, ea, a0, hL1⟩ := LnI_join hL (MD_len hM)
  have j1 := join_1 s
  obtain ⟨j2, j4⟩ := join_2 s
  have ha : a ∉ ln := fun q => by
    have := hL.2.2.2.2.1
    rw [efr] at this
    exact (List.nodup_append.mp this).2.2 a q a List.mem_cons_self rfl
  rw [ea]
  generalize hs2 : u2 (u2 (mLn_join s).2 3 a x) 0 a k = s2
  have f1 : s2.1 = (mLn_join s).2.1 := by rw [← hs2]; rfl
  have f20 : s2.2 0 = zup (s.2 0) a k := by rw [← hs2, u2_eq, u2_ne (by decide), j2 0 (by decide)]
  have f23 : s2.2 3 = zup (s.2 3) a x := by rw [← hs2, u2_ne (by decide), u2_eq, j2 3 (by decide)]
  have f21 : s2.2 1 = s.2 1 := by rw [← hs2, u2_ne (by decide), u2_ne (by decide), j2 1 (by decide)]
  have f24 : s2.2 4 = (mLn_join s).2.2 4 := by rw [← hs2, u2_ne (by decide), u2_ne (by decide)]
  have hL2 : LnI s2 (ln ++ [a]) fr' := LnI_cg hL1 (by rw [f1]) (by rw [f1]) (by rw [f1]) (by rw [f24])
  have hne : ∀ y ∈ ln, y ≠ a := fun y hy e => ha (by rw [← e]; exact hy)
  have f20n : ∀ y ∈ ln, s2.2 0 y = s.2 0 y := fun y hy => by rw [f20]; exact zup_ne (zne (hne y hy))
  have f43 : s2.2 4 3 = s.2 4 3 := by rw [f24]; exact j4 3 (by decide)
  have f44 : s2.2 4 4 = s.2 4 4 := by rw [f24]; exact j4 4 (by decide)
  have k2 : sK s s2 := ⟨by rw [f24]; exact j4 0 (by decide), by rw [f24]; exact j4 1 (by decide), f44⟩
  have hB2 : BI s2 ln bn := BI_congr (fun q h2 h7 => by rw [f1]; exact j1 q (by omega) (by omega) (by omega)) f21 f43 f44 f20n hB
  have hlen := MD_len hM
  have hB3 := BI_add (a := a) hB2 a0 ha (fun y hy => by
    rw [f20n y hy, f20, zup_eq]
    exact hk y hy) hlen
  have e1 := add_rows s2 a
  have e2 : ∀ q, q ≠ 1 → (mBi_add s2 a).2 q = s2.2 q := fun q hq => Bi_add_2 s2 a q hq
  have k3 : sK s (mBi_add s2 a) := k2.tr ⟨by rw [e2 4 (by decide)], by rw [e2 4 (by decide)], by rw [e2 4 (by decide)]⟩
  refine ⟨a, fr', _, mBi_add s2 a, rfl, ha, ?_, hB3, ?_, ?_, k3, ?_, (e2 0 (by decide)).trans f20, (e2 3 (by decide)).trans f23⟩
  · exact LnI_cg hL2 (e1 0 (by decide) (by decide) (by decide) (by decide) (by decide) (by decide) (by decide)) (e1 1 (by decide) (by decide) (by decide) (by decide) (by decide) (by decide) (by decide)) (e1 9 (by decide) (by decide) (by decide) (by decide) (by decide) (by decide) (by decide)) (by rw [e2 4 (by decide)])
  · intro hm
    have ex2 : BEx s2 ln bn := BEx_cg (hE (by rw [← k3.1]; exact hm)) (fun y hy => by
      show mBi_place s2 (s2.2 0 y) = mBi_place s (s.2 0 y)
      rw [f20n y hy]
      exact place_cg f43 f44 _)
    exact BEx_add ex2 (add_plc s2 a)
  · exact RM_cg hR (by rw [e2 4 (by decide)]; exact f43) (Nat.le_refl _)
  · rw [e2 4 (by decide)]; exact f43
/-- a slot has come, and the room is right -/
theorem come_2 {s : zT} {ln fr : List zS} {bn : zP → List zS} (hL : LnI s ln fr) (hB : BI s ln bn) (hE : s.2 4 0 ≠ 2 → BEx s ln bn) (hR : RM s (ln.length - 1)) (h1 : 1 ≤ ln.length) (hF : FN s) :
    ∃ (bn' : zP → List zS) (s5 : zT), s5 = (if mBi_tight s (s.2 4 2) then mBM_againL ((mBi_stretch s).2 4 2).toNatClampNeg ((mBi_stretch s).1 9 0) (mBi_stretch s) else s) ∧ Inv0 s5 ln fr bn' ∧ sK s s5 ∧ s5.2 0 = s.2 0 ∧ s5.2 3 = s.2 3 ∧ s5.2 4 3 = (if mBi_tight s (s.2 4 2) then s.2 4 3 * 2 else s.2 4 3) := by
  have hl := hB.2.2.2.2.1
  have hc := hL.2.2.2.2.2.2
  have en : ln.length - 1 + 1 = ln.length := by omega
  obtain ⟨tf, tt⟩ := tight_t hR (by omega)
  rw [en] at tf tt
  rw [hc]
  by_cases c : mBi_tight s (nI ln.length) = true
  · simp only [if_pos c]
    have hR4 := tt c
    have d1 : ∀ q, q ≠ 4 → q ≠ 5 → (mBi_stretch s).1 q = s.1 q := fun q h4 h5 => drain_o s q h4 h5
    have d2 : ∀ q, q ≠ 4 → (mBi_stretch s).2 q = s.2 q := fun q hq => u2_ne hq
    have d4 : ∀ i, i ≠ 3 → (mBi_stretch s).2 4 i = s.2 4 i := fun i hi => by
      unfold mBi_stretch
      rw [u2_at, if_neg hi]; rfl
    have hc4 : (mBi_stretch s).2 4 2 = nI ln.length := (d4 2 (by decide)).trans hc
    rw [hc4, nI_clamp (by omega)]
    have hB4 : BI (mBi_stretch s) [] (fun _ => []) := BI_empty (by rw [d2 1 (by decide)]; exact hB.1) (drain_4 s) (drain_5 s)
    have hL4 : LnI (mBi_stretch s) ln fr := LnI_cg hL (d1 0 (by decide) (by decide)) (d1 1 (by decide) (by decide)) (d1 9 (by decide) (by decide)) (d4 2 (by decide))
    obtain ⟨bn', i1, i2, i3, i4⟩ := again_spec (rest := ln) (done := []) (a := (mBi_stretch s).1 9 0) hB4 (fun _ => rfl) hL4.1 (by rw [List.nil_append]; exact fun x hx y hy => by rw [d2 0 (by decide)]; exact hB.2.1 x hx y hy) hB.2.2.1 hB.2.2.2.1 hl
    rw [List.nil_append] at i1 i2
    have k4 : sK s (mBi_stretch s) := ⟨d4 0 (by decide), d4 1 (by decide), d4 4 (by decide)⟩
    have k5 : sK s (mBM_againL ln.length ((mBi_stretch s).1 9 0) (mBi_stretch s)) := k4.tr ⟨by rw [i4 4 (by decide)], by rw [i4 4 (by decide)], by rw [i4 4 (by decide)]⟩
    refine ⟨bn', _, rfl, ⟨?_, i1, fun _ => i2, RM_cg hR4 (by rw [i4 4 (by decide)]) (Nat.le_refl _), FN_cg hF k5⟩, k5, (i4 0 (by decide)).trans (d2 0 (by decide)), (i4 3 (by decide)).trans (d2 3 (by decide)), ?_⟩
    · exact LnI_cg hL4 (i3 0 (by decide) (by decide) (by decide) (by decide) (by decide) (by decide) (by decide)) (i3 1 (by decide) (by decide) (by decide) (by decide) (by decide) (by decide) (by decide)) (i3 9 (by decide) (by decide) (by decide) (by decide) (by decide) (by decide) (by decide)) (by rw [i4 4 (by decide)])
    · rw [i4 4 (by decide)]; rfl
  · simp only [if_neg c]
    exact ⟨bn, s, rfl, ⟨hL, hB, hE, tf (by rwa [Bool.not_eq_true] at c), hF⟩, ⟨rfl, rfl, rfl⟩, rfl, rfl, rfl⟩
/-! WHAT THE STATE TELLS: pairs of key and number -/
abbrev kn (s : zT) (a : zS) : Int32 × Int32 := (s.2 0 a, s.2 3 a)
def Ab (s : zT) (kv : List (Int32 × Int32)) : Prop := ∃ ln fr bn, Inv s ln fr bn ∧ ln.map (kn s) = kv
theorem map_kn {s s' : zT} {l : List zS} (h0 : ∀ x ∈ l, s'.2 0 x = s.2 0 x) (h3 : ∀ x ∈ l, s'.2 3 x = s.2 3 x) : l.map (kn s') = l.map (kn s) := List.map_congr_left (fun x hx => by show (_, _) = (_, _); rw [h0 x hx, h3 x hx])
/-- A KEY COMES -/
theorem Ab_come {s : zT} {kv : List (Int32 × Int32)} {k x : Int32} (h : Ab s kv) (hk : ∀ e ∈ kv, ¬ e.1 = k) (hf : s.2 4 0 = 2 ∨ kv.length < 2000) :
    Ab (mBM_come s k x) (if s.2 4 0 = 2 ∧ s.2 4 1 = nI kv.length then kv.tail ++ [(k, x)] else kv ++ [(k, x)]) ∧ sK s (mBM_come s k x) ∧ (s.2 4 0 = 0 → (mBM_come s k x).2 4 3 = (if mBi_tight s (nI (kv.length + 1)) then s.2 4 3 * 2 else s.2 4 3)) := by
  obtain ⟨ln, fr, bn, hI, rfl⟩ := h
  have hk' : ∀ y ∈ ln, ¬ s.2 0 y = k := fun y hy => hk (kn s y) (List.mem_map_of_mem hy)
  rw [List.length_map] at hf ⊢
  obtain ⟨a, fr', bn', s3, e3, ha, hL, hB, hE, hR, k3, r3, f0, f3⟩ := come_1 (k := k) (x := x) hI hk'
  have hcome : mBM_come s k x = mBM_come2 (if mBi_tight s3 (s3.2 4 2) then mBM_againL ((mBi_stretch s3).2 4 2).toNatClampNeg ((mBi_stretch s3).1 9 0) (mBi_stretch s3) else s3) := by
    rw [e3]
    unfold mBM_come
    dsimp only
    split <;> rfl
  have lA : (ln ++ [a]).length = ln.length + 1 := by simp
  obtain ⟨bn5, s5, e5, hI5, k5, g0, g3, g43⟩ := come_2 hL hB hE (by rw [lA]; exact hR) (by rw [lA]; omega) (FN_cg hI.1.2.2.2.2 k3)
  rw [← e5] at hcome
  have k35 := k3.tr k5
  have hne : ∀ y ∈ ln, y ≠ a := fun y hy e => ha (by rw [← e]; exact hy)
  have m0 : ∀ y ∈ ln, s5.2 0 y = s.2 0 y := fun y hy => by rw [g0, f0]; exact zup_ne (zne (hne y hy))
  have m3 : ∀ y ∈ ln, s5.2 3 y = s.2 3 y := fun y hy => by rw [g3, f3]; exact zup_ne (zne (hne y hy))
  have ma : kn s5 a = (k, x) := by
    show (s5.2 0 a, s5.2 3 a) = (k, x)
    rw [g0, g3, f0, f3, zup_eq, zup_eq]
  have mall : (ln ++ [a]).map (kn s5) = ln.map (kn s) ++ [(k, x)] := by rw [List.map_append, map_kn m0 m3, List.map_singleton, ma]
  have tg : mBi_tight s3 (s3.2 4 2) = mBi_tight s (nI (ln.length + 1)) := by
    rw [hL.2.2.2.2.2.2, lA]
    unfold mBi_tight
    rw [r3]
  have r43 : s5.2 4 3 = (if mBi_tight s (nI (ln.length + 1)) then s.2 4 3 * 2 else s.2 4 3) := by rw [g43, tg, r3]
  have cnt : s5.2 4 2 = nI (ln.length + 1) := by rw [hI5.1.2.2.2.2.2.2, lA]
  have hM := hI.2
  rw [hcome]
  unfold mBM_come2
  rcases hM with ⟨hm, M, M1, M2, em, hlM⟩ | ⟨hm, hln⟩
  · rw [if_pos (k35.1.trans hm), cnt, k35.2.1, em]
    by_cases c : ln.length + 1 ≤ M
    · have c2 : ¬ (s.2 4 0 = 2 ∧ nI M = nI ln.length) := fun q => by
        have := (nI_eq (by omega) (by omega)).mp q.2
        omega
      rw [if_pos ((nI_leI (by omega) (by omega)).mpr c), if_neg c2]
      exact ⟨⟨ln ++ [a], fr', bn5, ⟨hI5, Or.inl ⟨k35.1.trans hm, M, M1, M2, k35.2.1.trans em, by rw [lA]; exact c⟩⟩, mall⟩, k35, fun q => by rw [q] at hm; exact absurd hm (by decide)⟩
    · have eM : ln.length = M := by omega
      rw [if_neg (fun q => c ((nI_leI (by omega) (by omega)).mp q)), if_pos ⟨hm, by rw [eM]⟩]
      obtain ⟨b, l2, el⟩ : ∃ b l2, ln = b :: l2 := by
        cases hln : ln with
        | nil => rw [hln] at eM; simp at eM; omega
        | cons b l2 => exact ⟨b, l2, rfl⟩
      have eA : ln ++ [a] = [] ++ b :: (l2 ++ [a]) := by rw [el]; rfl
      have hfirst : s5.1 9 0 = b := by
        have := hI5.1.1
        rw [eA] at this
        exact this.1
      rw [hfirst]
      rw [eA] at hI5
      obtain ⟨⟨bn6, i1⟩, i2, i3, i4, i5⟩ := Inv0_go hI5
      refine ⟨⟨_, _, bn6, ⟨i1, Or.inl ⟨(k35.tr i2).1.trans hm, M, M1, M2, (k35.tr i2).2.1.trans em, ?_⟩⟩, ?_⟩, k35.tr i2, fun q => by rw [q] at hm; exact absurd hm (by decide)⟩
      · rw [el] at eM
        simp at eM ⊢
        omega
      · rw [map_kn (s := s5) (fun y _ => by rw [i4]) (fun y _ => by rw [i5]), List.nil_append]
        rw [el] at mall ⊢
        have := congrArg List.tail mall
        exact this
  · have hm2 : ¬ s.2 4 0 = 2 := fun q => by rcases hm with c | c <;> (rw [q] at c; exact absurd c (by decide))
    rw [if_neg (by rw [k35.1]; exact hm2), if_neg (fun q => hm2 q.1)]
    have hlt : ln.length < 2000 := by
      rcases hf with q | q
      · exact absurd q hm2
      · exact q
    exact ⟨⟨ln ++ [a], fr', bn5, ⟨hI5, Or.inr ⟨by rw [k35.1]; exact hm, by rw [lA]; omega⟩⟩, mall⟩, k35, fun _ => r43⟩
