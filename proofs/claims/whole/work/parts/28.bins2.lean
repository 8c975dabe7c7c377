theorem app_off {s : zT} {p : zP} {a x : zS} {b : List zS} (q : BnC s p b) (ha : x ≠ a) (hx : x ∉ b) : (mBi_append s p a).1 2 x = s.1 2 x ∧ (mBi_append s p a).1 3 x = s.1 3 x := by
  obtain ⟨r2, r3, -, -⟩ := Bi_app_rows s p a
  rw [r2, r3]
  cases b with
  | nil =>
    have h0 : s.1 4 p = 0 := q.1
    rw [if_pos h0, if_pos h0, zup_ne (zne ha), zup_ne (zne ha)]
    exact ⟨rfl, rfl⟩
  | cons y ys =>
    obtain ⟨e, y0, l⟩ := BnC_head q
    have h0 : ¬ s.1 4 p = 0 := by rw [e]; exact y0
    have hy : x ≠ y := fun c => hx (by rw [c]; exact List.mem_cons_self)
    have hl : x ≠ lst y ys := fun c => by
      rcases lst_mem (l := ys) (p := y) with g | g
      · exact hy (c.trans g)
      · exact hx (by rw [c]; exact List.mem_cons_of_mem _ g)
    rw [if_neg h0, if_neg h0, e, l, zup_ne (zne hl), zup_ne (zne ha), zup_ne (zne hy), zup_ne (zne ha)]
    exact ⟨rfl, rfl⟩
theorem unl_off {s : zT} {p : zP} {a x : zS} {l1 l2 : List zS} (q : BnC s p (l1 ++ a :: l2)) (hx : x ∉ l1 ++ a :: l2) : (mBi_unlink s p a).1 2 x = s.1 2 x ∧ (mBi_unlink s p a).1 3 x = s.1 3 x := by
  obtain ⟨r2, r3, -, -⟩ := Bi_unl_rows s p a
  obtain ⟨m, g1, rfl, a0, g3⟩ := Sg_app.mp q.1
  have hh : s.1 4 p ∈ l1 ++ m :: l2 := by
    cases l1 with
    | nil =>
      have : s.1 4 p = m := g1
      rw [this]; simp
    | cons y ys => rw [g1.1]; simp
  have hf : ¬ m = s.1 4 p → s.1 3 m ∈ l1 ++ m :: l2 := fun hn => by
    cases l1 with
    | nil => exact absurd (show s.1 4 p = m from g1).symm hn
    | cons y ys =>
      have h2 := q.2.2
      obtain ⟨-, h3, -⟩ := Bk_app.mp h2
      rw [h3]
      rcases lst_mem (l := ys) (p := y) with g | g
      · rw [g]; simp
      · exact List.mem_append_left _ (List.mem_cons_of_mem _ g)
  have ht : ¬ s.1 2 m = 0 → s.1 2 m ∈ l1 ++ m :: l2 := fun hn => by
    cases l2 with
    | nil => exact absurd g3 hn
    | cons y ys => rw [g3.1]; simp
  constructor
  · rw [r2]
    split
    · rfl
    · next c => exact zup_ne (zne (fun e => hx (by rw [e]; exact hf c)))
  · rw [r3]
    split
    · split
      · rfl
      · exact zup_ne (zne (fun e => hx (by rw [e]; exact hh)))
    · next c => exact zup_ne (zne (fun e => hx (by rw [e]; exact ht c)))
theorem so_keep {s s' : zT} {l : List zS} (h : so s s' l) (h0 : ∀ x ∈ l, x ≠ 0) (z : s.2 1 0 = 0) : s'.2 1 0 = 0 := by
  have := (h 0 (fun q => h0 0 q rfl)).2.2
  exact this.trans z
theorem KD_ne {s : zT} {a : zS} {l : List zS} (h : KD s (a :: l)) (ha : a ∉ l) : ∀ x ∈ l, ¬ s.2 0 x = s.2 0 a := fun x hx e => ha (by
  have := h x (List.mem_cons_of_mem _ hx) a List.mem_cons_self e
  rw [← this]; exact hx)
/-- nine slots of a chain come into a new tree -/
theorem addL_spec {p : zP} : ∀ {rest done l : List zS} {h : Nat} {a e : zS} {s : zT}, s.2 1 0 = 0 → zAt s h (s.1 5 p) l → Srt s l → l.Perm done → Sg (s.1 2) a rest e → (done ++ rest).Nodup → KD s (done ++ rest) → (∀ x ∈ done ++ rest, x ≠ 0) → (done ++ rest).length ≤ 2001 →
    ∃ h' l', zAt (mBi_addL p rest.length a s) h' ((mBi_addL p rest.length a s).1 5 p) l' ∧ Srt s l' ∧ l'.Perm (done ++ rest) ∧ so s (mBi_addL p rest.length a s) (done ++ rest) ∧ (∀ q, q ≠ 5 → q ≠ 6 → q ≠ 7 → q ≠ 8 → (mBi_addL p rest.length a s).1 q = s.1 q) ∧ (∀ x : zP, x ≠ p → (mBi_addL p rest.length a s).1 5 x = s.1 5 x) := by
  intro rest
  induction rest with
  | nil =>
    intro done l h a e s z t st pm _ _ _ _ _
    rw [List.append_nil]
    exact ⟨h, l, t, st, pm, so_rf _ _, fun _ _ _ _ _ => rfl, fun _ _ => rfl⟩
  | cons y ys ih =>
    intro done l h a e s z t st pm sg nd kd h0 hl
    obtain ⟨ea, y0, sg2⟩ := sg
    have hy : y ∉ done := fun q => (List.nodup_append.mp nd).2.2 y q y List.mem_cons_self rfl
    have hyl : y ∉ l := fun q => hy (pm.mem_iff.mp q)
    have hkl : ∀ x ∈ l, ¬ s.2 0 x = s.2 0 y := fun x hx ex => hyl (by
      have := kd x (List.mem_append_left _ (pm.mem_iff.mp hx)) y (List.mem_append_right _ List.mem_cons_self) ex
      rw [← this]; exact hx)
    have hlen : l.length ≤ 2000 := by
      rw [pm.length_eq]
      simp only [List.length_append, List.length_cons] at hl
      omega
    obtain ⟨h1, l1, t1, st1, pm1, so1⟩ := with_spec z t st y0 hyl hkl hlen
    have tk1 := tk_with s (s.1 5 p) y
    rw [ea]
    have eL : mBi_addL p (y :: ys).length y s = mBi_addL p ys.length ((u1 (mTr_with s (s.1 5 p) y).2 5 p (mTr_with s (s.1 5 p) y).1).1 2 y) (u1 (mTr_with s (s.1 5 p) y).2 5 p (mTr_with s (s.1 5 p) y).1) := rfl
    rw [eL]
    clear eL
    generalize mTr_with s (s.1 5 p) y = q at *
    generalize hs2 : u1 q.2 5 p q.1 = s2
    have e55 : s2.1 5 p = q.1 := by rw [← hs2, u1_at, if_pos rfl]
    have eo : ∀ r, r ≠ 5 → s2.1 r = q.2.1 r := fun r hr => by rw [← hs2, u1_ne hr]
    have e2 : s2.2 = q.2.2 := by rw [← hs2]; rfl
    have e20 : s2.2 0 = s.2 0 := by rw [e2]; exact tk1.1 0 (by decide)
    have r2 : s2.1 2 = s.1 2 := (eo 2 (by decide)).trans (tk1.2 2 (by decide) (by decide) (by decide))
    have pmd : (done ++ y :: ys).Perm ((done ++ [y]) ++ ys) := by rw [List.append_assoc]; exact List.Perm.refl _
    have pm2 : l1.Perm (done ++ [y]) := pm1.trans (((List.Perm.cons y pm)).trans (List.perm_append_singleton y done).symm)
    have so2 : so s s2 l1 := fun x hx => ⟨by rw [eo 6 (by decide)]; exact (so1 x hx).1, by rw [eo 7 (by decide)]; exact (so1 x hx).2.1, by rw [e2]; exact (so1 x hx).2.2⟩
    have in2 : ∀ x ∈ l1, x ∈ done ++ y :: ys := fun x hx => by
      have := pm2.mem_iff.mp hx
      simp only [List.mem_append, List.mem_cons, List.mem_singleton, List.not_mem_nil, or_false] at this ⊢
      rcases this with g | g
      · exact Or.inl g
      · exact Or.inr (Or.inl g)
    have t2 : zAt s2 h1 (s2.1 5 p) l1 := by
      rw [e55]
      exact zAt_congr (fun x _ => ⟨by rw [eo 6 (by decide)], by rw [eo 7 (by decide)], by rw [e2]⟩) t1
    have z2 : s2.2 1 0 = 0 := so_keep so2 (fun x hx => h0 x (in2 x hx)) z
    have ea2 : (done ++ [y]) ++ ys = done ++ y :: ys := by rw [List.append_assoc]; rfl
    obtain ⟨h', l', i1, i2, i3, i4, i5, i6⟩ := ih (done := done ++ [y]) (l := l1) (h := h1) (a := s2.1 2 y) (e := e) (s := s2) z2 t2 (Srt_cg (fun x _ => by rw [e20]) st1) pm2 (by rw [r2]; exact sg2) (by rw [ea2]; exact nd) (by rw [ea2]; exact fun x hx w hw => by rw [e20]; exact kd x hx w hw) (by rw [ea2]; exact h0) (by rw [ea2]; exact hl)
    rw [ea2] at i3 i4
    refine ⟨h', l', i1, Srt_cg (fun x _ => by rw [e20]) i2, i3, (so2.wk in2).tr i4, fun r a5 a6 a7 a8 => (i5 r a5 a6 a7 a8).trans ((eo r a5).trans (tk1.2 r a6 a7 a8)), fun x hx => (i6 x hx).trans ?_⟩
    rw [← hs2, u1_at, if_neg (fun q => hx (Fin.ext q)), tk1.2 5 (by decide) (by decide) (by decide)]
theorem add_rows (s : zT) (a : zS) : ∀ q, q ≠ 2 → q ≠ 3 → q ≠ 4 → q ≠ 5 → q ≠ 6 → q ≠ 7 → q ≠ 8 → (mBi_add s a).1 q = s.1 q := by
  intro q q2 q3 q4 q5 q6 q7 q8
  have ha := (Bi_app_rows s (mBi_place s (s.2 0 a)) a).2.2.2 q q2 q3 q4
  have hL : ∀ (n : Nat) (p : zP) (b : zS) (t : zT), (mBi_addL p n b t).1 q = t.1 q := by
    intro n p
    induction n with
    | zero => intro b t; rfl
    | succ n ih =>
      intro b t
      refine (ih _ _).trans ?_
      rw [u1_ne q5]
      exact (tk_with t (t.1 5 p) b).2 q q6 q7 q8
  unfold mBi_add
  dsimp only
  split
  · split
    · exact (hL _ _ _ _).trans ha
    · exact ha
  · rw [u1_ne q5]
    exact ((tk_with _ _ a).2 q q6 q7 q8).trans ha
theorem remove_rows (s : zT) (a : zS) : ∀ q, q ≠ 2 → q ≠ 3 → q ≠ 4 → q ≠ 5 → q ≠ 6 → q ≠ 7 → q ≠ 8 → (mBi_remove s a).1 q = s.1 q := by
  intro q q2 q3 q4 q5 q6 q7 q8
  have ha := (Bi_unl_rows s (mBi_place s (s.2 0 a)) a).2.2.2 q q2 q3 q4
  unfold mBi_remove
  dsimp only
  split
  · exact ha
  · split
    · rw [u1_ne q5]
      exact ((tk_without _ _ a).2 q q6 q7 q8).trans ha
    · rw [u1_ne q5]
      exact ((tk_without _ _ a).2 q q6 q7 q8).trans ha
