theorem filter_snoc_t {ln : List zS} {a : zS} {f : zS → Bool} (h : f a = true) : (ln ++ [a]).filter f = ln.filter f ++ [a] := by
  rw [List.filter_append, List.filter_cons_of_pos h]; rfl
theorem filter_snoc_f {ln : List zS} {a : zS} {f : zS → Bool} (h : f a = false) : (ln ++ [a]).filter f = ln.filter f := by
  rw [List.filter_append, List.filter_cons_of_neg (by rw [h]; decide)]; simp
/-- A SLOT COMES INTO THE BINS -/
theorem BI_add {s : zT} {ln : List zS} {bn : zP → List zS} {a : zS} (h : BI s ln bn) (a0 : a ≠ 0) (ha : a ∉ ln) (hk : ∀ x ∈ ln, ¬ s.2 0 x = s.2 0 a) (hl : ln.length ≤ 2000) :
    BI (mBi_add s a) (ln ++ [a]) (fun q => if q = plc s a then bn q ++ [a] else bn q) := by
  have hm := @BI_mem s ln bn h
  have hb := (h.2.2.2.2.2 (plc s a))
  have hlen := BI_len h (plc s a)
  have ndb : (bn (plc s a) ++ [a]).Nodup := by
    rw [List.nodup_append]
    refine ⟨hb.2.nodup_iff.mpr (h.2.2.2.1.filter _), by simp, fun x hx y hy e => ?_⟩
    rw [List.mem_singleton] at hy
    exact ha (by rw [← hy, ← e]; exact (hm.mp hx).1)
  have q1 : BnC (mBi_append s (plc s a) a) (plc s a) (bn (plc s a) ++ [a]) := BnC_append hb.1.1 ndb a0
  have r1 := (Bi_app_rows s (plc s a) a).2.2
  have e12 : (mBi_append s (plc s a) a).2 = s.2 := Bi_append_2 s (plc s a) a
  have off1 : ∀ x : zS, x ∉ a :: bn (plc s a) → (mBi_append s (plc s a) a).1 2 x = s.1 2 x ∧ (mBi_append s (plc s a) a).1 3 x = s.1 3 x := fun x hx => app_off hb.1.1 (fun e => hx (by rw [e]; exact List.mem_cons_self)) (fun q => hx (List.mem_cons_of_mem _ q))
  have r4 : ∀ q : zP, q ≠ plc s a → (mBi_append s (plc s a) a).1 4 q = s.1 4 q := fun q hq => by
    rw [r1.1]
    split
    · exact zup_ne (fun e => hq (Fin.ext e))
    · rfl
  have kdA : KD s (ln ++ [a]) := fun x hx y hy e => by
    rw [List.mem_append, List.mem_singleton] at hx hy
    rcases hx with hx | rfl <;> rcases hy with hy | rfl
    · exact h.2.1 x hx y hy e
    · exact absurd e (hk x hx)
    · exact absurd e.symm (hk y hy)
    · rfl
  have h0A : ∀ x ∈ ln ++ [a], x ≠ 0 := fun x hx => by
    rw [List.mem_append, List.mem_singleton] at hx
    rcases hx with hx | rfl
    · exact h.2.2.1 x hx
    · exact a0
  have ndA : (ln ++ [a]).Nodup := by
    rw [List.nodup_append]
    exact ⟨h.2.2.2.1, by simp, fun x hx y hy e => ha (by rw [List.mem_singleton] at hy; rw [← hy, ← e]; exact hx)⟩
  have hqA : ∀ q, q ≠ plc s a → (bn q).Perm ((ln ++ [a]).filter (fun b => decide (plc s b = q))) := fun q hq => by
    rw [filter_snoc_f (decide_eq_false (fun e => hq e.symm))]
    exact (h.2.2.2.2.2 q).2
  have hpA : (bn (plc s a) ++ [a]).Perm ((ln ++ [a]).filter (fun b => decide (plc s b = plc s a))) := by
    rw [filter_snoc_t (decide_eq_true rfl)]
    exact hb.2.append_right _
  have lpA : ∀ x ∈ a :: bn (plc s a), plc s x = plc s a := fun x hx => by
    rcases List.mem_cons.mp hx with e | hx
    · rw [e]
    · exact (hm.mp hx).2
  have in1 : ∀ x ∈ bn (plc s a) ++ [a], x ∈ a :: bn (plc s a) := fun x hx => by
    rw [List.mem_append, List.mem_singleton] at hx
    rcases hx with hx | rfl
    · exact List.mem_cons_of_mem _ hx
    · exact List.mem_cons_self
  -- what the trees do next, whatever it is
  have key : ∀ s' : zT, (∀ q, q ≠ 5 → q ≠ 6 → q ≠ 7 → q ≠ 8 → s'.1 q = (mBi_append s (plc s a) a).1 q) → (∀ q, q ≠ 1 → s'.2 q = s.2 q) → so s s' (a :: bn (plc s a)) → (∀ q : zP, q ≠ plc s a → s'.1 5 q = s.1 5 q) →
      ((s'.1 5 (plc s a) = 0 ∧ (bn (plc s a) ++ [a]).length ≤ 8) ∨ (s'.1 5 (plc s a) ≠ 0 ∧ ∃ (h : Nat) (l : List zS), 3 ≤ h ∧ zAt s' h (s'.1 5 (plc s a)) l ∧ Srt s' l ∧ l.Perm (bn (plc s a) ++ [a]))) →
      BI s' (ln ++ [a]) (fun q => if q = plc s a then bn q ++ [a] else bn q) := by
    intro s' g1 g2 g3 g4 g5
    have ef : (fun q => if q = plc s a then bn q ++ [a] else bn q) = (fun q => if q = plc s a then bn (plc s a) ++ [a] else bn q) := by
      funext q
      split
      · next e => rw [e]
      · rfl
    rw [ef]
    refine BI_step (l := a :: bn (plc s a)) h ?_ (g2 0 (by decide)) (g2 4 (by decide)) kdA h0A ndA (by simp; omega) hqA ⟨?_, g5⟩ hpA ?_ lpA ?_ g4
    · exact so_keep g3 (fun x hx => by
        rcases List.mem_cons.mp hx with e | hx
        · rw [e]; exact a0
        · exact h.2.2.1 x (hm.mp hx).1) h.1
    · exact BnC_congr (fun x _ => by rw [g1 2 (by decide) (by decide) (by decide) (by decide)]) (fun x _ => by rw [g1 3 (by decide) (by decide) (by decide) (by decide)]) (by rw [g1 4 (by decide) (by decide) (by decide) (by decide)]) q1
    · intro x hx
      refine ⟨?_, ?_, (g3 x hx).1, (g3 x hx).2.1, (g3 x hx).2.2⟩
      · rw [g1 2 (by decide) (by decide) (by decide) (by decide)]; exact (off1 x hx).1
      · rw [g1 3 (by decide) (by decide) (by decide) (by decide)]; exact (off1 x hx).2
    · intro q hq
      rw [g1 4 (by decide) (by decide) (by decide) (by decide)]; exact r4 q hq
  have r5 : (mBi_append s (plc s a) a).1 5 = s.1 5 := r1.2 5 (by decide) (by decide) (by decide)
  have so1 : so s (mBi_append s (plc s a) a) (a :: bn (plc s a)) := fun x _ => ⟨by rw [r1.2 6 (by decide) (by decide) (by decide)], by rw [r1.2 7 (by decide) (by decide) (by decide)], by rw [e12]⟩
  have e2 : ∀ q, q ≠ 1 → (mBi_add s a).2 q = s.2 q := fun q hq => Bi_add_2 s a q hq
  have hadd : mBi_add s a = (if (mBi_append s (plc s a) a).1 5 (plc s a) = 0 then (if mBi_long (mBi_append s (plc s a) a) (plc s a) then mBi_addL (plc s a) 9 ((mBi_append s (plc s a) a).1 4 (plc s a)) (mBi_append s (plc s a) a) else mBi_append s (plc s a) a) else u1 (mTr_with (mBi_append s (plc s a) a) ((mBi_append s (plc s a) a).1 5 (plc s a)) a).2 5 (plc s a) (mTr_with (mBi_append s (plc s a) a) ((mBi_append s (plc s a) a).1 5 (plc s a)) a).1) := rfl
  rcases hb.1.2 with ⟨r0, l8⟩ | ⟨r0, hh, l, h3, t, st, pm⟩
  · have r0' : (mBi_append s (plc s a) a).1 5 (plc s a) = 0 := by rw [r5]; exact r0
    rw [if_pos r0'] at hadd
    by_cases c : mBi_long (mBi_append s (plc s a) a) (plc s a) = true
    · rw [if_pos c] at hadd
      have c9 : (bn (plc s a) ++ [a]).length = 9 := by
        have : ¬ (bn (plc s a) ++ [a]).length ≤ 8 := fun q => by
          unfold mBi_long at c
          rw [decide_eq_true ((longL_spec q1.1).mpr q)] at c
          exact absurd c (by decide)
        simp only [List.length_append, List.length_cons, List.length_nil] at this ⊢
        omega
      have z1 : (mBi_append s (plc s a) a).2 1 0 = 0 := by rw [e12]; exact h.1
      have t0 : zAt (mBi_append s (plc s a) a) 0 ((mBi_append s (plc s a) a).1 5 (plc s a)) [] := by rw [r0']; exact zAt_nil _
      obtain ⟨h', l', i1, i2, i3, i4, i5, i6⟩ := addL_spec (p := plc s a) (rest := bn (plc s a) ++ [a]) (done := []) z1 t0 List.Pairwise.nil (List.Perm.refl _) q1.1 ndb (fun x hx y hy e => kdA x (by
          rw [List.nil_append] at hx
          have := in1 x hx
          rcases List.mem_cons.mp this with e | g
          · rw [e]; simp
          · exact List.mem_append_left _ (hm.mp g).1) y (by
          rw [List.nil_append] at hy
          have := in1 y hy
          rcases List.mem_cons.mp this with e | g
          · rw [e]; simp
          · exact List.mem_append_left _ (hm.mp g).1) (by rw [← e12]; exact e)) (fun x hx => by
          rw [List.nil_append] at hx
          have := in1 x hx
          rcases List.mem_cons.mp this with e | g
          · rw [e]; exact a0
          · exact h.2.2.1 x (hm.mp g).1) (by rw [List.nil_append, c9]; decide)
      rw [c9, ← hadd] at i1 i4 i5 i6
      rw [List.nil_append] at i3 i4
      refine key (mBi_add s a) i5 e2 (so1.tr (i4.wk in1)) (fun q hq => (i6 q hq).trans (by rw [r5])) (Or.inr ⟨fun e0 => ?_, h', l', zAt_3 i1 (by rw [i3.length_eq, c9]; decide), i1, Srt_cg (fun x _ => by rw [e2 0 (by decide), e12]) i2, i3⟩)
      have := (zAt_0 i1).2.mp e0
      rw [this] at i3
      have := i3.length_eq
      rw [c9] at this
      exact absurd this (by decide)
    · rw [if_neg c] at hadd
      refine key (mBi_add s a) (fun q _ _ _ _ => by rw [hadd]) e2 (by rw [hadd]; exact so1) (fun q _ => by rw [hadd, r5]) (Or.inl ⟨by rw [hadd]; exact r0', ?_⟩)
      rcases Nat.lt_or_ge 8 (bn (plc s a) ++ [a]).length with g | g
      · refine absurd ?_ c
        unfold mBi_long
        rw [decide_eq_false (fun e => by have := (longL_spec q1.1).mp e; omega)]
        rfl
      · exact g
  · have r0' : ¬ (mBi_append s (plc s a) a).1 5 (plc s a) = 0 := by rw [r5]; exact r0
    rw [if_neg r0'] at hadd
    have hal : a ∉ l := fun q => ha (hm.mp (pm.mem_iff.mp q)).1
    obtain ⟨h', l', i1, i2, i3, i4⟩ := with_spec (s := mBi_append s (plc s a) a) (root := (mBi_append s (plc s a) a).1 5 (plc s a)) (a := a) (h := hh) (l := l) (by rw [e12]; exact h.1) (by rw [r5]; exact zAt_congr (fun x _ => ⟨by rw [r1.2 6 (by decide) (by decide) (by decide)], by rw [r1.2 7 (by decide) (by decide) (by decide)], by rw [e12]⟩) t) (Srt_cg (fun x _ => by rw [e12]) st) a0 hal (fun x hx => by rw [e12]; exact hk x (hm.mp (pm.mem_iff.mp hx)).1) (by rw [pm.length_eq]; omega)
    have tk1 := tk_with (mBi_append s (plc s a) a) ((mBi_append s (plc s a) a).1 5 (plc s a)) a
    generalize mTr_with (mBi_append s (plc s a) a) ((mBi_append s (plc s a) a).1 5 (plc s a)) a = w at *
    have pl : l'.Perm (bn (plc s a) ++ [a]) := i3.trans ((List.Perm.cons a pm).trans (List.perm_append_singleton a _).symm)
    have e55 : (mBi_add s a).1 5 (plc s a) = w.1 := by rw [hadd, u1_at, if_pos rfl]
    have eo : ∀ r, r ≠ 5 → (mBi_add s a).1 r = w.2.1 r := fun r hr => by rw [hadd, u1_ne hr]
    have ew : (mBi_add s a).2 = w.2.2 := by rw [hadd]; rfl
    have t' : zAt (mBi_add s a) h' ((mBi_add s a).1 5 (plc s a)) l' := by
      rw [e55]
      exact zAt_congr (fun x _ => ⟨by rw [eo 6 (by decide)], by rw [eo 7 (by decide)], by rw [ew]⟩) i1
    refine key (mBi_add s a) (fun q a5 a6 a7 a8 => (eo q a5).trans (tk1.2 q a6 a7 a8)) e2 ?_ ?_ (Or.inr ⟨fun e0 => ?_, h', l', zAt_3 t' (by have := zAt_4 t h3; rw [i3.length_eq]; simp; omega), t', Srt_cg (fun x _ => by rw [e2 0 (by decide), e12]) i2, pl⟩)
    · refine so1.tr ?_
      have : so (mBi_append s (plc s a) a) w.2 (a :: bn (plc s a)) := i4.wk (fun x hx => in1 x (pl.mem_iff.mp hx))
      exact fun x hx => ⟨by rw [eo 6 (by decide)]; exact (this x hx).1, by rw [eo 7 (by decide)]; exact (this x hx).2.1, by rw [ew]; exact (this x hx).2.2⟩
    · intro q hq
      rw [hadd, u1_at, if_neg (fun e => hq (Fin.ext e)), tk1.2 5 (by decide) (by decide) (by decide), r5]
    · have := (zAt_0 t').2.mp e0
      rw [this] at i3
      have := i3.length_eq
      simp at this
