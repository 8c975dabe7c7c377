/-! THE LINE: ln: the slots in use, in their order; fr: the free ones -/
def LnI (s : zT) (ln fr : List zS) : Prop :=
  Sg (s.1 1) (s.1 9 0) ln 0 ∧ Bk (s.1 0) 0 ln ∧ s.1 9 1 = lst 0 ln ∧ Sg (s.1 1) (s.1 9 2) fr 0 ∧ (ln ++ fr).Nodup ∧ ln.length + fr.length = 2001 ∧ s.2 4 2 = nI ln.length
theorem LnI_app_rows (s : zT) (a : zS) : (mLn_append s a).1 0 = zup (s.1 0) a (s.1 9 1) ∧ (mLn_append s a).1 1 = (if s.1 9 1 = 0 then zup (s.1 1) a 0 else zup (zup (s.1 1) a 0) (s.1 9 1) a) ∧
    (mLn_append s a).1 9 0 = (if s.1 9 1 = 0 then a else s.1 9 0) ∧ (mLn_append s a).1 9 1 = a ∧ (mLn_append s a).1 9 2 = s.1 9 2 ∧ ∀ q, q ≠ 0 → q ≠ 1 → q ≠ 9 → (mLn_append s a).1 q = s.1 q := by
  have e : (u1 (u1 s 0 a.val (s.1 9 1)) 1 a.val 0).1 9 1 = s.1 9 1 := rfl
  by_cases h : s.1 9 1 = 0
  · unfold mLn_append
    simp only [e, if_pos h]
    exact ⟨rfl, rfl, rfl, rfl, rfl, fun q h0 h1 h9 => by rw [u1_ne h9, u1_ne h9, u1_ne h1, u1_ne h0]⟩
  · unfold mLn_append
    simp only [e, if_neg h]
    exact ⟨rfl, rfl, rfl, rfl, rfl, fun q h0 h1 h9 => by rw [u1_ne h9, u1_ne h1, u1_ne h1, u1_ne h0]⟩
theorem LnI_unl_rows (s : zT) (a : zS) : (mLn_unlink s a).1 0 = (if s.1 1 a = 0 then s.1 0 else zup (s.1 0) (s.1 1 a) (s.1 0 a)) ∧ (mLn_unlink s a).1 1 = (if s.1 0 a = 0 then s.1 1 else zup (s.1 1) (s.1 0 a) (s.1 1 a)) ∧
    (mLn_unlink s a).1 9 0 = (if s.1 0 a = 0 then s.1 1 a else s.1 9 0) ∧ (mLn_unlink s a).1 9 1 = (if s.1 1 a = 0 then s.1 0 a else s.1 9 1) ∧ (mLn_unlink s a).1 9 2 = s.1 9 2 ∧ ∀ q, q ≠ 0 → q ≠ 1 → q ≠ 9 → (mLn_unlink s a).1 q = s.1 q := by
  unfold mLn_unlink
  by_cases h : s.1 0 a = 0 <;> by_cases k : s.1 1 a = 0
  · simp only [if_pos h, if_pos k]
    exact ⟨rfl, rfl, rfl, rfl, rfl, fun q h0 h1 h9 => by rw [u1_ne h9, u1_ne h9]⟩
  · simp only [if_pos h, if_neg k]
    exact ⟨rfl, rfl, rfl, rfl, rfl, fun q h0 h1 h9 => by rw [u1_ne h0, u1_ne h9]⟩
  · simp only [if_neg h, if_pos k]
    exact ⟨rfl, rfl, rfl, rfl, rfl, fun q h0 h1 h9 => by rw [u1_ne h9, u1_ne h1]⟩
  · simp only [if_neg h, if_neg k]
    exact ⟨rfl, rfl, rfl, rfl, rfl, fun q h0 h1 h9 => by rw [u1_ne h0, u1_ne h1]⟩
/-- a slot comes to the end -/
theorem LnI_append {s : zT} {ln fr : List zS} {a : zS} (h1 : Sg (s.1 1) (s.1 9 0) ln 0) (h2 : Bk (s.1 0) 0 ln) (h3 : s.1 9 1 = lst 0 ln) (hf : Sg (s.1 1) (s.1 9 2) fr 0) (nd : (a :: (ln ++ fr)).Nodup) (a0 : a ≠ 0) :
    Sg ((mLn_append s a).1 1) ((mLn_append s a).1 9 0) (ln ++ [a]) 0 ∧ Bk ((mLn_append s a).1 0) 0 (ln ++ [a]) ∧ (mLn_append s a).1 9 1 = lst 0 (ln ++ [a]) ∧ Sg ((mLn_append s a).1 1) ((mLn_append s a).1 9 2) fr 0 := by
  obtain ⟨r0, r1, r2, r3, r4, -⟩ := LnI_app_rows s a
  have ha : a ∉ ln ++ fr := (List.nodup_cons.mp nd).1
  have nd2 := (List.nodup_cons.mp nd).2
  have hal : a ∉ ln := fun q => ha (List.mem_append_left _ q)
  have haf : a ∉ fr := fun q => ha (List.mem_append_right _ q)
  refine ⟨?_, ?_, ?_, ?_⟩
  · rw [r1, r2]
    by_cases hl : ln = []
    · subst hl
      have h0 : s.1 9 1 = 0 := h3
      rw [if_pos h0, if_pos h0]
      exact ⟨rfl, a0, zup_eq⟩
    · have hm : lst 0 ln ∈ ln := lst_in hl
      obtain ⟨l0, e0⟩ := lst_split (p := 0) hl
      have hx0 : ¬ s.1 9 1 = 0 := by rw [h3]; exact Sg_ne h1 hm
      rw [if_neg hx0, if_neg hx0, h3]
      generalize hx : lst 0 ln = x at *
      have hxa : x ≠ a := fun q => hal (q ▸ hm)
      subst e0
      have hxl : x ∉ l0 := fun q => by
        have := (List.nodup_append.mp (List.nodup_append.mp nd2).1).2.2 x q x List.mem_cons_self
        exact this rfl
      have hal0 : a ∉ l0 := fun q => hal (List.mem_append_left _ q)
      obtain ⟨g1, g2, g3⟩ := Sg_snoc.mp h1
      refine Sg_snoc.mpr ⟨Sg_snoc.mpr ⟨Sg_up hxl (Sg_up hal0 g1), g2, zup_eq⟩, a0, ?_⟩
      rw [zup_ne (zne hxa.symm)]
      exact zup_eq
  · rw [r0, Bk_app]
    refine ⟨Bk_up hal h2, ?_, trivial⟩
    rw [zup_eq]
    exact h3
  · rw [r3, lst_app]
    rfl
  · rw [r1, r4]
    by_cases h0 : s.1 9 1 = 0
    · rw [if_pos h0]
      exact Sg_up haf hf
    · rw [if_neg h0]
      refine Sg_up ?_ (Sg_up haf hf)
      have hl : ln ≠ [] := fun q => h0 (by rw [h3, q]; rfl)
      rw [h3]
      exact fun q => (List.nodup_append.mp nd2).2.2 _ (lst_in hl) _ q rfl
/-- a slot goes out of the line -/
theorem LnI_unlink {s : zT} {l1 l2 fr : List zS} {a : zS} (h1 : Sg (s.1 1) (s.1 9 0) (l1 ++ a :: l2) 0) (h2 : Bk (s.1 0) 0 (l1 ++ a :: l2)) (h3 : s.1 9 1 = lst 0 (l1 ++ a :: l2)) (hf : Sg (s.1 1) (s.1 9 2) fr 0) (nd : ((l1 ++ a :: l2) ++ fr).Nodup) :
    Sg ((mLn_unlink s a).1 1) ((mLn_unlink s a).1 9 0) (l1 ++ l2) 0 ∧ Bk ((mLn_unlink s a).1 0) 0 (l1 ++ l2) ∧ (mLn_unlink s a).1 9 1 = lst 0 (l1 ++ l2) ∧ Sg ((mLn_unlink s a).1 1) ((mLn_unlink s a).1 9 2) fr 0 := by
  obtain ⟨r0, r1, r2, r3, r4, -⟩ := LnI_unl_rows s a
  obtain ⟨m, g1, rfl, g2, g3⟩ := Sg_app.mp h1
  obtain ⟨b1, b2, b3⟩ := Bk_app.mp h2
  have ndl := (List.nodup_append.mp nd).1
  have nd1 := (List.nodup_append.mp ndl).1
  have nd2 := (List.nodup_cons.mp (List.nodup_append.mp ndl).2.1).2
  have d12 : ∀ x ∈ l1, ∀ y ∈ l2, x ≠ y := fun x hx y hy => (List.nodup_append.mp ndl).2.2 x hx y (List.mem_cons_of_mem _ hy)
  have d1f : ∀ x ∈ l1, x ∉ fr := fun x hx q => (List.nodup_append.mp nd).2.2 x (List.mem_append_left _ hx) x q rfl
  have e1 : s.1 0 m = lst 0 l1 := b2
  have z1 : s.1 0 m = 0 ↔ l1 = [] := by
    rw [e1]
    refine ⟨fun q => ?_, fun q => by rw [q]; rfl⟩
    by_cases hl : l1 = []
    · exact hl
    · exact absurd q (Sg_ne g1 (lst_in hl))
  have z2 : s.1 1 m = 0 ↔ l2 = [] := by
    cases l2 with
    | nil => exact ⟨fun _ => rfl, fun _ => g3⟩
    | cons y ys => exact ⟨fun q => absurd (g3.1.symm.trans q) g3.2.1, fun q => by cases q⟩
  refine ⟨?_, ?_, ?_, ?_⟩
  · rw [r1, r2]
    by_cases hl : l1 = []
    · rw [if_pos (z1.mpr hl), if_pos (z1.mpr hl)]
      subst hl
      exact g3
    · rw [if_neg (fun q => hl (z1.mp q)), if_neg (fun q => hl (z1.mp q)), e1]
      obtain ⟨l0, e0⟩ := lst_split (p := 0) hl
      have hxm : lst 0 l1 ∈ l1 := lst_in hl
      generalize hx : lst 0 l1 = x at *
      have hxl : x ∉ l0 := fun q => by
        rw [e0] at nd1
        exact (List.nodup_append.mp nd1).2.2 x q x List.mem_cons_self rfl
      rw [e0] at g1
      obtain ⟨k1, k2, k3⟩ := Sg_snoc.mp g1
      refine Sg_app.mpr ⟨s.1 1 m, ?_, Sg_up (fun q => d12 x hxm x q rfl) g3⟩
      rw [e0]
      exact Sg_snoc.mpr ⟨Sg_up hxl k1, k2, zup_eq⟩
  · rw [r0]
    cases l2 with
    | nil =>
      rw [if_pos (z2.mpr rfl), List.append_nil]
      exact b1
    | cons y ys =>
      rw [if_neg (fun q => by have := z2.mp q; cases this)]
      have ey : s.1 1 m = y := g3.1
      rw [ey, e1]
      refine Bk_app.mpr ⟨Bk_up (fun q => d12 y q y List.mem_cons_self rfl) b1, zup_eq, Bk_up (List.nodup_cons.mp nd2).1 b3.2⟩
  · rw [r3]
    cases l2 with
    | nil =>
      rw [if_pos (z2.mpr rfl), List.append_nil]
      exact e1
    | cons y ys =>
      rw [if_neg (fun q => by have := z2.mp q; cases this), h3, lst_app, lst_app]
      rfl
  · rw [r1, r4]
    by_cases hl : l1 = []
    · rw [if_pos (z1.mpr hl)]
      exact hf
    · rw [if_neg (fun q => hl (z1.mp q)), e1]
      exact Sg_up (d1f _ (lst_in hl)) hf
theorem LnI_join {s : zT} {ln fr : List zS} (h : LnI s ln fr) (hl : ln.length ≤ 2000) : ∃ a fr', fr = a :: fr' ∧ (mLn_join s).1 = a ∧ a ≠ 0 ∧ LnI (mLn_join s).2 (ln ++ [a]) fr' := by
  obtain ⟨h1, h2, h3, h4, h5, h6, h7⟩ := h
  cases fr with
  | nil => simp at h6; omega
  | cons a fr' =>
    obtain ⟨g1, g2, g3⟩ := h4
    have ea : (mLn_join s).1 = a := g1
    refine ⟨a, fr', rfl, ea, g2, ?_⟩
    have hs : (mLn_join s).2 = u2 (mLn_append (u1 s 9 2 (s.1 1 a)) a) 4 2 (s.2 4 2 + 1) := by
      unfold mLn_join
      try dsimp only
      rw [g1, Ln_append_2]
      rfl
    have nd : (a :: (ln ++ fr')).Nodup := by
      have := List.perm_middle.nodup_iff.mp h5
      exact this
    obtain ⟨k1, k2, k3, k4⟩ := LnI_append (s := u1 s 9 2 (s.1 1 a)) (ln := ln) (fr := fr') h1 h2 h3 g3 nd g2
    rw [hs]
    refine ⟨k1, k2, k3, k4, ?_, ?_, ?_⟩
    · rw [List.append_assoc]
      exact h5
    · simp at h6 ⊢
      omega
    · show (s.2 4 2 + 1) = _
      rw [h7, nI_1, List.length_append]
      rfl
theorem LnI_leave {s : zT} {l1 l2 fr : List zS} {a : zS} (h : LnI s (l1 ++ a :: l2) fr) : LnI (mLn_leave s a) (l1 ++ l2) (a :: fr) := by
  obtain ⟨h1, h2, h3, h4, h5, h6, h7⟩ := h
  obtain ⟨k1, k2, k3, k4⟩ := LnI_unlink h1 h2 h3 h4 h5
  have a0 : a ≠ 0 := Sg_ne h1 (List.mem_append_right _ List.mem_cons_self)
  have hp : ((l1 ++ a :: l2) ++ fr).Perm ((l1 ++ l2) ++ a :: fr) := by
    have p1 : ((l1 ++ a :: l2) ++ fr).Perm (a :: ((l1 ++ l2) ++ fr)) := by
      rw [List.append_assoc, List.append_assoc]
      exact List.perm_middle
    exact p1.trans List.perm_middle.symm
  have nd := hp.nodup_iff.mp h5
  have nd2 := List.perm_middle.nodup_iff.mp nd
  have hal : a ∉ l1 ++ l2 := fun q => (List.nodup_cons.mp nd2).1 (List.mem_append_left _ q)
  have haf : a ∉ fr := fun q => (List.nodup_cons.mp nd2).1 (List.mem_append_right _ q)
  refine ⟨Sg_up hal k1, k2, k3, ⟨rfl, a0, ?_⟩, nd, ?_, ?_⟩
  · show Sg (zup ((mLn_unlink s a).1 1) a _) (zup ((mLn_unlink s a).1 1) a _ a) fr 0
    rw [zup_eq]
    exact Sg_up haf k4
  · simp at h6 ⊢
    omega
  · show (mLn_unlink s a).2 4 2 - 1 = _
    rw [Ln_unlink_2, h7]
    have e : (l1 ++ a :: l2).length = (l1 ++ l2).length + 1 := by simp; omega
    rw [e, nI_pred]
theorem LnI_toEnd {s : zT} {l1 l2 fr : List zS} {a : zS} (h : LnI s (l1 ++ a :: l2) fr) : LnI (mLn_toEnd s a) ((l1 ++ l2) ++ [a]) fr := by
  obtain ⟨h1, h2, h3, h4, h5, h6, h7⟩ := h
  obtain ⟨k1, k2, k3, k4⟩ := LnI_unlink h1 h2 h3 h4 h5
  have a0 : a ≠ 0 := Sg_ne h1 (List.mem_append_right _ List.mem_cons_self)
  have p1 : ((l1 ++ a :: l2) ++ fr).Perm (a :: ((l1 ++ l2) ++ fr)) := by
    rw [List.append_assoc, List.append_assoc]
    exact List.perm_middle
  have nd := p1.nodup_iff.mp h5
  obtain ⟨j1, j2, j3, j4⟩ := LnI_append k1 k2 k3 k4 nd a0
  refine ⟨j1, j2, j3, j4, ?_, ?_, ?_⟩
  · rw [List.append_assoc]
    exact List.perm_middle.nodup_iff.mpr nd
  · simp at h6 ⊢
    omega
  · show (mLn_append (mLn_unlink s a) a).2 4 2 = _
    rw [Ln_append_2, Ln_unlink_2, h7]
    have e : ((l1 ++ l2) ++ [a]).length = (l1 ++ a :: l2).length := by simp
    rw [e]
theorem LnI_drain {s : zT} {ln fr : List zS} (h : LnI s ln fr) : LnI (mLn_drain s) [] (ln ++ fr) := by
  obtain ⟨h1, h2, h3, h4, h5, h6, h7⟩ := h
  by_cases hl : ln = []
  · subst hl
    have h0 : s.1 9 1 = 0 := h3
    unfold mLn_drain
    simp only [if_pos h0]
    exact ⟨rfl, trivial, rfl, h4, h5, h6, rfl⟩
  · have hm : lst 0 ln ∈ ln := lst_in hl
    have hx0 : ¬ s.1 9 1 = 0 := by rw [h3]; exact Sg_ne h1 hm
    obtain ⟨l0, e0⟩ := lst_split (p := 0) hl
    unfold mLn_drain
    simp only [if_neg hx0]
    refine ⟨rfl, trivial, rfl, ?_, h5, by simp; omega, rfl⟩
    show Sg (zup (s.1 1) (s.1 9 1) (s.1 9 2)) (s.1 9 0) (ln ++ fr) 0
    rw [h3]
    have hxf : lst 0 ln ∉ fr := fun q => (List.nodup_append.mp h5).2.2 _ hm _ q rfl
    refine Sg_app.mpr ⟨s.1 9 2, ?_, Sg_up hxf h4⟩
    generalize hx : lst 0 ln = x at *
    subst e0
    have hxl : x ∉ l0 := fun q => (List.nodup_append.mp (List.nodup_append.mp h5).1).2.2 x q x List.mem_cons_self rfl
    obtain ⟨g1, g2, g3⟩ := Sg_snoc.mp h1
    exact Sg_snoc.mpr ⟨Sg_up hxl g1, g2, zup_eq⟩
theorem rankL_spec : ∀ (l : List zS) (i : Nat) (a : zS) (s : zT), Sg (s.1 1) a l 0 → l.Nodup → (∀ x, x ∉ l → (mLn_rankL l.length i a s).2 2 x = s.2 2 x) ∧ ∀ (j : Nat) (x : zS), l[j]? = some x → (mLn_rankL l.length i a s).2 2 x = nI (i + j) := by
  intro l
  induction l with
  | nil => intro i a s _ _; exact ⟨fun _ _ => rfl, fun j x h => by simp at h⟩
  | cons y ys ih =>
    intro i a s h nd
    obtain ⟨rfl, h2, h3⟩ := h
    obtain ⟨n1, n2⟩ := List.nodup_cons.mp nd
    obtain ⟨g1, g2⟩ := ih (i + 1) (s.1 1 a) (u2 s 2 a (nI i)) h3 n2
    show (∀ x, x ∉ a :: ys → (mLn_rankL ys.length (i + 1) (s.1 1 a) (u2 s 2 a (nI i))).2 2 x = s.2 2 x) ∧ ∀ (j : Nat) (x : zS), (a :: ys)[j]? = some x → (mLn_rankL ys.length (i + 1) (s.1 1 a) (u2 s 2 a (nI i))).2 2 x = nI (i + j)
    refine ⟨fun x hx => ?_, fun j x hj => ?_⟩
    · rw [g1 x (fun q => hx (List.mem_cons_of_mem _ q)), u2_eq, zup_ne (zne (fun q => hx (by rw [q]; exact List.mem_cons_self)))]
    · cases j with
      | zero =>
        have : a = x := by simpa using hj
        subst this
        rw [g1 a n1, u2_eq, zup_eq]
        rfl
      | succ j =>
        rw [g2 j x (by simpa using hj), show i + 1 + j = i + (j + 1) by omega]
theorem LnI_rank {s : zT} {ln fr : List zS} (h : LnI s ln fr) : (mLn_rank s).1 = s.1 ∧ (∀ q, q ≠ 2 → (mLn_rank s).2 q = s.2 q) ∧ ∀ (j : Nat) (x : zS), ln[j]? = some x → (mLn_rank s).2 2 x = nI j := by
  obtain ⟨h1, h2, h3, h4, h5, h6, h7⟩ := h
  have hlen : (s.2 4 2).toNatClampNeg = ln.length := by rw [h7, nI_clamp (by omega)]
  unfold mLn_rank
  rw [hlen]
  refine ⟨Ln_rankL_1 _ _ _ _, fun q hq => Ln_rankL_2 _ _ _ _ q hq, fun j x hj => ?_⟩
  rw [(rankL_spec ln 0 (s.1 9 0) s h1 (List.nodup_append.mp h5).1).2 j x hj, Nat.zero_add]
theorem freeL_spec (s : zT) : ∀ (l : List zS) (n i : Nat) (a : zS), Sg (s.1 1) a l 0 → l.length < n → mLn_freeL s n i a = nI (i + l.length) := by
  intro l
  induction l with
  | nil =>
    intro n i a h hn
    cases n with
    | zero => omega
    | succ n => rw [mLn_freeL, if_pos (show a = 0 from h)]; rfl
  | cons y ys ih =>
    intro n i a h hn
    obtain ⟨rfl, h2, h3⟩ := h
    cases n with
    | zero => omega
    | succ n =>
      rw [mLn_freeL, if_neg h2, ih n (i + 1) _ h3 (by simp at hn; omega)]
      rw [show i + 1 + ys.length = i + (a :: ys).length by simp; omega]
theorem faL_spec (s : zT) : ∀ (l : List zS) (n i : Nat) (x : Int32) (p a : zS), Sg (s.1 1) a l 0 → Bk (s.1 0) p l → l.length < n → mLn_faL s n i x p a = mLn_fa1 s x (i + l.length) (lst p l) := by
  intro l
  induction l with
  | nil =>
    intro n i x p a h _ hn
    cases n with
    | zero => omega
    | succ n => rw [mLn_faL, if_pos (show a = 0 from h)]; rfl
  | cons y ys ih =>
    intro n i x p a h hb hn
    obtain ⟨rfl, h2, h3⟩ := h
    cases n with
    | zero => omega
    | succ n =>
      rw [mLn_faL, if_neg h2, if_pos hb.1, ih n (i + 1) x a _ h3 hb.2 (by simp at hn; omega)]
      rw [show i + 1 + ys.length = i + (a :: ys).length by simp; omega]
      rfl
theorem LnI_faults {s : zT} {ln fr : List zS} (h : LnI s ln fr) : mLn_faults s = 0 := by
  obtain ⟨h1, h2, h3, h4, h5, h6, h7⟩ := h
  unfold mLn_faults
  rw [faL_spec s ln 2002 0 0 0 _ h1 h2 (by omega), Nat.zero_add]
  have e : mLn_free s = nI fr.length := by
    unfold mLn_free
    rw [freeL_spec s fr 2002 0 _ h4 (by omega), Nat.zero_add]
  unfold mLn_fa1 mLn_fa2 mLn_fa3
  rw [if_pos h3.symm, if_pos h7.symm, e, nI_add, h6]
  rfl
