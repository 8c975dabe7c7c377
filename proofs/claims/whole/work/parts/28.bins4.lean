/-- A SLOT GOES OUT OF THE BINS -/
theorem BI_remove {s : zT} {l1 l2 : List zS} {bn : zP → List zS} {a : zS} (h : BI s (l1 ++ a :: l2) bn) :
    BI (mBi_remove s a) (l1 ++ l2) (fun q => if q = plc s a then (bn q).erase a else bn q) := by
  have hm := @BI_mem s (l1 ++ a :: l2) bn h
  have hb := (h.2.2.2.2.2 (plc s a))
  have hlen := BI_len h (plc s a)
  have hl := h.2.2.2.2.1
  have hain : a ∈ l1 ++ a :: l2 := by simp
  have hab : a ∈ bn (plc s a) := hm.mpr ⟨hain, rfl⟩
  have ndb : (bn (plc s a)).Nodup := hb.2.nodup_iff.mpr (h.2.2.2.1.filter _)
  obtain ⟨c1, c2, hc⟩ := List.append_of_mem hab
  have hac1 : a ∉ c1 := fun q => by
    rw [hc] at ndb
    exact (List.nodup_append.mp ndb).2.2 a q a List.mem_cons_self rfl
  have he : (bn (plc s a)).erase a = c1 ++ c2 := by rw [hc, List.erase_append_right _ hac1, List.erase_cons_head]
  have hsub : ∀ x ∈ l1 ++ l2, x ∈ l1 ++ a :: l2 := fun x hx => by
    rw [List.mem_append] at hx ⊢
    rcases hx with hx | hx
    · exact Or.inl hx
    · exact Or.inr (List.mem_cons_of_mem _ hx)
  have csub : ∀ x ∈ c1 ++ c2, x ∈ bn (plc s a) := fun x hx => by
    rw [hc]
    rw [List.mem_append] at hx ⊢
    rcases hx with hx | hx
    · exact Or.inl hx
    · exact Or.inr (List.mem_cons_of_mem _ hx)
  have ndA : (l1 ++ l2).Nodup := (List.nodup_cons.mp (List.perm_middle.nodup_iff.mp h.2.2.2.1)).2
  have hqA : ∀ q, q ≠ plc s a → (bn q).Perm ((l1 ++ l2).filter (fun b => decide (plc s b = q))) := fun q hq => by
    have := (h.2.2.2.2.2 q).2
    rw [List.filter_append, List.filter_cons_of_neg (by rw [decide_eq_true_eq]; exact fun e => hq e.symm), ← List.filter_append] at this
    exact this
  have hpA : (c1 ++ c2).Perm ((l1 ++ l2).filter (fun b => decide (plc s b = plc s a))) := by
    have := hb.2
    rw [hc, List.filter_append, List.filter_cons_of_pos (p := fun b => decide (plc s b = plc s a)) (decide_eq_true rfl)] at this
    have := (List.perm_middle.symm.trans this).trans List.perm_middle
    rw [← List.filter_append] at this
    exact List.Perm.cons_inv this
  have q0 := hb.1.1
  rw [hc] at q0 ndb
  have q1 : BnC (mBi_unlink s (plc s a) a) (plc s a) (c1 ++ c2) := BnC_unlink q0 ndb
  have r1 := (Bi_unl_rows s (plc s a) a).2.2
  have e12 : (mBi_unlink s (plc s a) a).2 = s.2 := Bi_unlink_2 s (plc s a) a
  have off1 : ∀ x : zS, x ∉ bn (plc s a) → (mBi_unlink s (plc s a) a).1 2 x = s.1 2 x ∧ (mBi_unlink s (plc s a) a).1 3 x = s.1 3 x := fun x hx => unl_off q0 (by rw [← hc]; exact hx)
  have r4 : ∀ q : zP, q ≠ plc s a → (mBi_unlink s (plc s a) a).1 4 q = s.1 4 q := fun q hq => by
    rw [r1.1]
    split
    · exact zup_ne (fun e => hq (Fin.ext e))
    · rfl
  have lpA : ∀ x ∈ bn (plc s a), plc s x = plc s a := fun x hx => (hm.mp hx).2
  have key : ∀ s' : zT, (∀ q, q ≠ 5 → q ≠ 6 → q ≠ 7 → q ≠ 8 → s'.1 q = (mBi_unlink s (plc s a) a).1 q) → (∀ q, q ≠ 1 → s'.2 q = s.2 q) → so s s' (bn (plc s a)) → (∀ q : zP, q ≠ plc s a → s'.1 5 q = s.1 5 q) →
      ((s'.1 5 (plc s a) = 0 ∧ (c1 ++ c2).length ≤ 8) ∨ (s'.1 5 (plc s a) ≠ 0 ∧ ∃ (h : Nat) (l : List zS), 3 ≤ h ∧ zAt s' h (s'.1 5 (plc s a)) l ∧ Srt s' l ∧ l.Perm (c1 ++ c2))) →
      BI s' (l1 ++ l2) (fun q => if q = plc s a then (bn q).erase a else bn q) := by
    intro s' g1 g2 g3 g4 g5
    have ef : (fun q => if q = plc s a then (bn q).erase a else bn q) = (fun q => if q = plc s a then c1 ++ c2 else bn q) := by
      funext q
      split
      · next e => rw [e, he]
      · rfl
    rw [ef]
    refine BI_step (l := bn (plc s a)) h ?_ (g2 0 (by decide)) (g2 4 (by decide)) (KD_sub h.2.1 hsub) (fun x hx => h.2.2.1 x (hsub x hx)) ndA (by simp only [List.length_append, List.length_cons] at hl ⊢; omega) hqA ⟨?_, g5⟩ hpA ?_ lpA ?_ g4
    · exact so_keep g3 (fun x hx => h.2.2.1 x (hm.mp hx).1) h.1
    · exact BnC_congr (fun x _ => by rw [g1 2 (by decide) (by decide) (by decide) (by decide)]) (fun x _ => by rw [g1 3 (by decide) (by decide) (by decide) (by decide)]) (by rw [g1 4 (by decide) (by decide) (by decide) (by decide)]) q1
    · intro x hx
      refine ⟨?_, ?_, (g3 x hx).1, (g3 x hx).2.1, (g3 x hx).2.2⟩
      · rw [g1 2 (by decide) (by decide) (by decide) (by decide)]; exact (off1 x hx).1
      · rw [g1 3 (by decide) (by decide) (by decide) (by decide)]; exact (off1 x hx).2
    · intro q hq
      rw [g1 4 (by decide) (by decide) (by decide) (by decide)]; exact r4 q hq
  have r5 : (mBi_unlink s (plc s a) a).1 5 = s.1 5 := r1.2 5 (by decide) (by decide) (by decide)
  have so1 : so s (mBi_unlink s (plc s a) a) (bn (plc s a)) := fun x _ => ⟨by rw [r1.2 6 (by decide) (by decide) (by decide)], by rw [r1.2 7 (by decide) (by decide) (by decide)], by rw [e12]⟩
  have e2 : ∀ q, q ≠ 1 → (mBi_remove s a).2 q = s.2 q := fun q hq => Bi_remove_2 s a q hq
  have hrem : mBi_remove s a = (if (mBi_unlink s (plc s a) a).1 5 (plc s a) = 0 then mBi_unlink s (plc s a) a else if 3 ≤ (mTr_without (mBi_unlink s (plc s a) a) ((mBi_unlink s (plc s a) a).1 5 (plc s a)) a).2.2 1 (mTr_without (mBi_unlink s (plc s a) a) ((mBi_unlink s (plc s a) a).1 5 (plc s a)) a).1 then u1 (mTr_without (mBi_unlink s (plc s a) a) ((mBi_unlink s (plc s a) a).1 5 (plc s a)) a).2 5 (plc s a) (mTr_without (mBi_unlink s (plc s a) a) ((mBi_unlink s (plc s a) a).1 5 (plc s a)) a).1 else u1 (mTr_without (mBi_unlink s (plc s a) a) ((mBi_unlink s (plc s a) a).1 5 (plc s a)) a).2 5 (plc s a) 0) := rfl
  rcases hb.1.2 with ⟨r0, l8⟩ | ⟨r0, hh, l, h3, t, st, pm⟩
  · have r0' : (mBi_unlink s (plc s a) a).1 5 (plc s a) = 0 := by rw [r5]; exact r0
    rw [if_pos r0'] at hrem
    refine key (mBi_remove s a) (fun q _ _ _ _ => by rw [hrem]) e2 (by rw [hrem]; exact so1) (fun q _ => by rw [hrem, r5]) (Or.inl ⟨by rw [hrem]; exact r0', ?_⟩)
    rw [hc] at l8
    simp only [List.length_append, List.length_cons] at l8 ⊢
    omega
  · have r0' : ¬ (mBi_unlink s (plc s a) a).1 5 (plc s a) = 0 := by rw [r5]; exact r0
    rw [if_neg r0'] at hrem
    obtain ⟨h', l', i1, i2, i3, i4⟩ := without_spec (s := mBi_unlink s (plc s a) a) (root := (mBi_unlink s (plc s a) a).1 5 (plc s a)) (a := a) (h := hh) (l := l) (by rw [e12]; exact h.1) (by rw [r5]; exact zAt_congr (fun x _ => ⟨by rw [r1.2 6 (by decide) (by decide) (by decide)], by rw [r1.2 7 (by decide) (by decide) (by decide)], by rw [e12]⟩) t) (Srt_cg (fun x _ => by rw [e12]) st) (pm.mem_iff.mpr hab) (by rw [pm.length_eq]; omega)
    have tk1 := tk_without (mBi_unlink s (plc s a) a) ((mBi_unlink s (plc s a) a).1 5 (plc s a)) a
    generalize mTr_without (mBi_unlink s (plc s a) a) ((mBi_unlink s (plc s a) a).1 5 (plc s a)) a = w at *
    have pl : l'.Perm (c1 ++ c2) := by
      have := (i3.symm.trans pm)
      rw [hc] at this
      exact List.Perm.cons_inv (this.trans List.perm_middle)
    have inl : ∀ x ∈ l', x ∈ bn (plc s a) := fun x hx => csub x (pl.mem_iff.mp hx)
    have zw : w.2.2 1 0 = 0 := so_keep i4 (fun x hx => h.2.2.1 x (hm.mp (inl x hx)).1) (by rw [e12]; exact h.1)
    have hh' := zAt_h zw i1
    have h21 := zAt_21 i1 (by
      have e1 := i3.length_eq
      have e2 := pm.length_eq
      simp only [List.length_cons] at e1
      omega)
    have ew : (mBi_remove s a).2 = w.2.2 := by rw [hrem]; split <;> rfl
    have eo : ∀ r, r ≠ 5 → (mBi_remove s a).1 r = w.2.1 r := fun r hr => by
      rw [hrem]
      split <;> rw [u1_ne hr]
    have sow : so s (mBi_remove s a) (bn (plc s a)) := by
      refine so1.tr ?_
      have : so (mBi_unlink s (plc s a) a) w.2 (bn (plc s a)) := i4.wk inl
      exact fun x hx => ⟨by rw [eo 6 (by decide)]; exact (this x hx).1, by rw [eo 7 (by decide)]; exact (this x hx).2.1, by rw [ew]; exact (this x hx).2.2⟩
    have r5w : ∀ q : zP, q ≠ plc s a → (mBi_remove s a).1 5 q = s.1 5 q := fun q hq => by
      rw [hrem]
      split <;> rw [u1_at, if_neg (fun e => hq (Fin.ext e)), tk1.2 5 (by decide) (by decide) (by decide), r5]
    refine key (mBi_remove s a) (fun q a5 a6 a7 a8 => (eo q a5).trans (tk1.2 q a6 a7 a8)) e2 sow r5w ?_
    by_cases c : 3 ≤ w.2.2 1 w.1
    · rw [if_pos c] at hrem
      have e55 : (mBi_remove s a).1 5 (plc s a) = w.1 := by rw [hrem, u1_at, if_pos rfl]
      have t' : zAt (mBi_remove s a) h' ((mBi_remove s a).1 5 (plc s a)) l' := by
        rw [e55]
        exact zAt_congr (fun x _ => ⟨by rw [eo 6 (by decide)], by rw [eo 7 (by decide)], by rw [ew]⟩) i1
      have h3' : 3 ≤ h' := by
        rw [hh'] at c
        exact (nI_leI (a := 3) (by decide) (by omega)).mp c
      refine Or.inr ⟨fun e0 => ?_, h', l', h3', t', Srt_cg (fun x _ => by rw [e2 0 (by decide), e12]) i2, pl⟩
      have := (zAt_0 t').1.mp e0
      omega
    · rw [if_neg c] at hrem
      have h3' : h' ≤ 2 := by
        rcases Nat.lt_or_ge h' 3 with g | g
        · omega
        · refine absurd ?_ c
          rw [hh']
          exact (nI_leI (a := 3) (by decide) (by omega)).mpr g
      have := zAt_len2 i1 h3'
      rw [pl.length_eq] at this
      exact Or.inl ⟨by rw [hrem, u1_at, if_pos rfl], by omega⟩
theorem BI_empty {s : zT} (z : s.2 1 0 = 0) (h4 : ∀ p : zP, s.1 4 p = 0) (h5 : ∀ p : zP, s.1 5 p = 0) : BI s [] (fun _ => []) :=
  ⟨z, fun x hx => (by cases hx), fun x hx => (by cases hx), List.Pairwise.nil, by decide, fun p => ⟨⟨⟨h4 p, trivial⟩, Or.inl ⟨h5 p, Nat.zero_le _⟩⟩, List.Perm.refl _⟩⟩
theorem drain_4 (s : zT) (p : zP) : (mBi_drain s).1 4 p = 0 := by
  show (if p.val < 4096 then (0 : zS) else s.1 4 p) = 0
  rw [if_pos p.isLt]
theorem drain_5 (s : zT) (p : zP) : (mBi_drain s).1 5 p = 0 := by
  show (if p.val < 4096 then (0 : zS) else (mFill s 4).1 5 p) = 0
  rw [if_pos p.isLt]
theorem drain_o (s : zT) (q : Nat) (h4 : q ≠ 4) (h5 : q ≠ 5) : (mBi_drain s).1 q = s.1 q := by
  show (bif Nat.beq q 5 then _ else (bif Nat.beq q 4 then _ else s.1 q)) = s.1 q
  cases c : Nat.beq q 5 with
  | true => exact absurd (Nat.eq_of_beq_eq_true c) h5
  | false =>
    cases c : Nat.beq q 4 with
    | true => exact absurd (Nat.eq_of_beq_eq_true c) h4
    | false => rfl
/-- the chains stand as the line does -/
def BEx (s : zT) (ln : List zS) (bn : zP → List zS) : Prop := ∀ p, bn p = ln.filter (fun a => decide (plc s a = p))
theorem BEx_add {s s' : zT} {ln : List zS} {bn : zP → List zS} {a : zS} (h : BEx s ln bn) (hp : ∀ x : zS, plc s' x = plc s x) : BEx s' (ln ++ [a]) (fun q => if q = plc s a then bn q ++ [a] else bn q) := fun p => by
  dsimp only
  have e : (ln ++ [a]).filter (fun a => decide (plc s' a = p)) = (ln ++ [a]).filter (fun a => decide (plc s a = p)) := List.filter_congr (fun x _ => by rw [hp x])
  rw [e]
  split
  · next c => rw [filter_snoc_t (decide_eq_true c.symm), h p]
  · next c => rw [filter_snoc_f (decide_eq_false (fun e => c e.symm)), h p]
theorem BEx_remove {s s' : zT} {l1 l2 : List zS} {bn : zP → List zS} {a : zS} (h : BEx s (l1 ++ a :: l2) bn) (ha : a ∉ l1) (hp : ∀ x : zS, plc s' x = plc s x) : BEx s' (l1 ++ l2) (fun q => if q = plc s a then (bn q).erase a else bn q) := fun p => by
  dsimp only
  have e : (l1 ++ l2).filter (fun a => decide (plc s' a = p)) = (l1 ++ l2).filter (fun a => decide (plc s a = p)) := List.filter_congr (fun x _ => by rw [hp x])
  rw [e, h p]
  split
  · next c => rw [List.filter_append, List.filter_cons_of_pos (p := fun b => decide (plc s b = p)) (decide_eq_true c.symm), List.erase_append_right _ (fun q => ha (List.mem_filter.mp q).1), List.erase_cons_head, List.filter_append]
  · next c => rw [List.filter_append, List.filter_cons_of_neg (by rw [decide_eq_true_eq]; exact fun e => c e.symm), List.filter_append]
theorem add_plc (s : zT) (a x : zS) : plc (mBi_add s a) x = plc s x := by
  show mBi_place (mBi_add s a) ((mBi_add s a).2 0 x) = mBi_place s (s.2 0 x)
  rw [Bi_add_2 s a 0 (by decide)]
  exact place_cg (by rw [Bi_add_2 s a 4 (by decide)]) (by rw [Bi_add_2 s a 4 (by decide)]) _
theorem remove_plc (s : zT) (a x : zS) : plc (mBi_remove s a) x = plc s x := by
  show mBi_place (mBi_remove s a) ((mBi_remove s a).2 0 x) = mBi_place s (s.2 0 x)
  rw [Bi_remove_2 s a 0 (by decide)]
  exact place_cg (by rw [Bi_remove_2 s a 4 (by decide)]) (by rw [Bi_remove_2 s a 4 (by decide)]) _
/-- THE SLOTS COME INTO THEIR NEW PLACES -/
theorem again_spec : ∀ {rest done : List zS} {bn : zP → List zS} {a : zS} {s : zT}, BI s done bn → BEx s done bn → Sg (s.1 1) a rest 0 → KD s (done ++ rest) → (∀ x ∈ rest, x ≠ 0) → (done ++ rest).Nodup → (done ++ rest).length ≤ 2001 →
    ∃ bn', BI (mBM_againL rest.length a s) (done ++ rest) bn' ∧ BEx (mBM_againL rest.length a s) (done ++ rest) bn' ∧ (∀ q, q ≠ 2 → q ≠ 3 → q ≠ 4 → q ≠ 5 → q ≠ 6 → q ≠ 7 → q ≠ 8 → (mBM_againL rest.length a s).1 q = s.1 q) ∧ (∀ q, q ≠ 1 → (mBM_againL rest.length a s).2 q = s.2 q) := by
  intro rest
  induction rest with
  | nil =>
    intro done bn a s h ex _ _ _ _ _
    rw [List.append_nil]
    exact ⟨bn, h, ex, fun _ _ _ _ _ _ _ _ => rfl, fun _ _ => rfl⟩
  | cons y ys ih =>
    intro done bn a s h ex sg kd h0 nd hl
    obtain ⟨ea, y0, sg2⟩ := sg
    have eL : mBM_againL (y :: ys).length a s = mBM_againL ys.length ((mBi_add s y).1 1 y) (mBi_add s y) := by rw [ea]; rfl
    rw [eL]
    have hy : y ∉ done := fun q => (List.nodup_append.mp nd).2.2 y q y List.mem_cons_self rfl
    have b1 := BI_add (a := y) h y0 hy (fun x hx ex => hy (by
      have := kd x (List.mem_append_left _ hx) y (List.mem_append_right _ List.mem_cons_self) ex
      rw [← this]; exact hx)) (by simp only [List.length_append, List.length_cons] at hl; omega)
    have ea2 : (done ++ [y]) ++ ys = done ++ y :: ys := by rw [List.append_assoc]; rfl
    have e20 : (mBi_add s y).2 0 = s.2 0 := Bi_add_2 s y 0 (by decide)
    have e11 : (mBi_add s y).1 1 = s.1 1 := add_rows s y 1 (by decide) (by decide) (by decide) (by decide) (by decide) (by decide) (by decide)
    obtain ⟨bn', i1, i2, i3, i4⟩ := ih b1 (BEx_add ex (add_plc s y)) (a := (mBi_add s y).1 1 y) (by rw [e11]; exact sg2) (by rw [ea2]; exact fun x hx w hw => by rw [e20]; exact kd x hx w hw) (fun x hx => h0 x (List.mem_cons_of_mem _ hx)) (by rw [ea2]; exact nd) (by rw [ea2]; exact hl)
    rw [ea2] at i1 i2
    exact ⟨bn', i1, i2, fun q a2 a3 a4 a5 a6 a7 a8 => (i3 q a2 a3 a4 a5 a6 a7 a8).trans (add_rows s y q a2 a3 a4 a5 a6 a7 a8), fun q hq => (i4 q hq).trans (Bi_add_2 s y q hq)⟩
