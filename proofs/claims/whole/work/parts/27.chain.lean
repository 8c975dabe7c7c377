/-! THE BINS' CHAINS: the first one of a chain has the last one before it -/
def Pv (g : Nat → zS) : List zS → Prop
  | [] => True
  | x :: xs => g x = lst x xs ∧ Bk g x xs
def BnC (s : zT) (p : Nat) (b : List zS) : Prop := Sg (s.1 2) (s.1 4 p) b 0 ∧ Pv (s.1 3) b
theorem BnC_congr {s s' : zT} {p p' : Nat} {b : List zS} (h2 : ∀ x ∈ b, s'.1 2 x = s.1 2 x) (h3 : ∀ x ∈ b, s'.1 3 x = s.1 3 x) (h4 : s'.1 4 p' = s.1 4 p) (q : BnC s p b) : BnC s' p' b := by
  refine ⟨by rw [h4]; exact Sg_congr h2 q.1, ?_⟩
  cases b with
  | nil => trivial
  | cons x xs => exact ⟨(h3 x List.mem_cons_self).trans q.2.1, Bk_congr (fun y hy => h3 y (List.mem_cons_of_mem _ hy)) q.2.2⟩
theorem Bi_app_rows (s : zT) (p : zP) (a : zS) : (mBi_append s p a).1 2 = (if s.1 4 p = 0 then zup (s.1 2) a 0 else zup (zup (s.1 2) a 0) (s.1 3 (s.1 4 p)) a) ∧ (mBi_append s p a).1 3 = (if s.1 4 p = 0 then zup (s.1 3) a a else zup (zup (s.1 3) a (s.1 3 (s.1 4 p))) (s.1 4 p) a) ∧
    (mBi_append s p a).1 4 = (if s.1 4 p = 0 then zup (s.1 4) p a else s.1 4) ∧ ∀ q, q ≠ 2 → q ≠ 3 → q ≠ 4 → (mBi_append s p a).1 q = s.1 q := by
  unfold mBi_append
  by_cases h : s.1 4 p = 0
  · simp only [if_pos h]
    exact ⟨rfl, rfl, rfl, fun q h2 h3 h4 => by rw [u1_ne h3, u1_ne h4, u1_ne h2]⟩
  · simp only [if_neg h]
    exact ⟨rfl, rfl, rfl, fun q h2 h3 h4 => by rw [u1_ne h3, u1_ne h3, u1_ne h2, u1_ne h2]⟩
theorem Bi_unl_rows (s : zT) (p : zP) (a : zS) : (mBi_unlink s p a).1 2 = (if a = s.1 4 p then s.1 2 else zup (s.1 2) (s.1 3 a) (s.1 2 a)) ∧ (mBi_unlink s p a).1 3 = (if s.1 2 a = 0 then (if a = s.1 4 p then s.1 3 else zup (s.1 3) (s.1 4 p) (s.1 3 a)) else zup (s.1 3) (s.1 2 a) (s.1 3 a)) ∧
    (mBi_unlink s p a).1 4 = (if a = s.1 4 p then zup (s.1 4) p (s.1 2 a) else s.1 4) ∧ ∀ q, q ≠ 2 → q ≠ 3 → q ≠ 4 → (mBi_unlink s p a).1 q = s.1 q := by
  unfold mBi_unlink
  by_cases h : a = s.1 4 p <;> by_cases k : s.1 2 a = 0
  · simp only [if_pos h, if_pos k]
    exact ⟨rfl, rfl, rfl, fun q h2 h3 h4 => by rw [u1_ne h4]⟩
  · simp only [if_pos h, if_neg k]
    exact ⟨rfl, rfl, rfl, fun q h2 h3 h4 => by rw [u1_ne h3, u1_ne h4]⟩
  · simp only [if_neg h, if_pos k]
    exact ⟨rfl, rfl, rfl, fun q h2 h3 h4 => by rw [u1_ne h3, u1_ne h2]⟩
  · simp only [if_neg h, if_neg k]
    exact ⟨rfl, rfl, rfl, fun q h2 h3 h4 => by rw [u1_ne h3, u1_ne h2]⟩
theorem BnC_head {s : zT} {p : Nat} {x : zS} {xs : List zS} (q : BnC s p (x :: xs)) : s.1 4 p = x ∧ x ≠ 0 ∧ s.1 3 x = lst x xs := ⟨q.1.1, q.1.2.1, q.2.1⟩
/-- a slot comes to the end of its chain -/
theorem BnC_append {s : zT} {p : zP} {a : zS} {b : List zS} (q : BnC s p b) (nd : (b ++ [a]).Nodup) (a0 : a ≠ 0) : BnC (mBi_append s p a) p (b ++ [a]) := by
  obtain ⟨r2, r3, r4, -⟩ := Bi_app_rows s p a
  cases b with
  | nil =>
    have h0 : s.1 4 p = 0 := q.1
    rw [if_pos h0] at r2 r3 r4
    refine ⟨?_, ?_, trivial⟩
    · rw [r2, r4, zup_eq]
      exact ⟨rfl, a0, zup_eq⟩
    · show (mBi_append s p a).1 3 a = a
      rw [r3, zup_eq]
  | cons x xs =>
    obtain ⟨h1, h2, h3⟩ := BnC_head q
    have h0 : ¬ s.1 4 p = 0 := by rw [h1]; exact h2
    rw [if_neg h0] at r2 r3 r4
    rw [h1, h3] at r2 r3
    have hal : a ∉ x :: xs := fun w => (List.nodup_append.mp nd).2.2 a w a List.mem_cons_self rfl
    have nx := (List.nodup_append.mp nd).1
    obtain ⟨l0, e0⟩ := lst_split (l := x :: xs) (p := 0) (by simp)
    have hm : lst x xs ∈ x :: xs := lst_in (l := x :: xs) (p := 0) (by simp)
    have e0' : x :: xs = l0 ++ [lst x xs] := e0
    generalize hy : lst x xs = y at *
    have hya : y ≠ a := fun w => hal (w ▸ hm)
    refine ⟨?_, ?_⟩
    · rw [r2, r4, e0']
      rw [e0'] at nx hal
      have hyl : y ∉ l0 := fun w => (List.nodup_append.mp nx).2.2 y w y List.mem_cons_self rfl
      have hal0 : a ∉ l0 := fun w => hal (List.mem_append_left _ w)
      have g := q.1
      rw [e0'] at g
      obtain ⟨g1, g2, g3⟩ := Sg_snoc.mp g
      refine Sg_snoc.mpr ⟨Sg_snoc.mpr ⟨Sg_up hyl (Sg_up hal0 g1), g2, zup_eq⟩, a0, ?_⟩
      rw [zup_ne (zne hya.symm)]
      exact zup_eq
    · obtain ⟨n1, n2⟩ := List.nodup_cons.mp nx
      have hax : a ≠ x := fun w => hal (by rw [w]; exact List.mem_cons_self)
      have haxs : a ∉ xs := fun w => hal (List.mem_cons_of_mem _ w)
      rw [r3]
      refine ⟨?_, Bk_app.mpr ⟨Bk_up n1 (Bk_up haxs q.2.2), ?_, trivial⟩⟩
      · rw [zup_eq]
        show a = lst x (xs ++ [a])
        rw [lst_app]
        rfl
      · rw [zup_ne (zne hax), zup_eq, hy]
/-- a slot goes out of its chain -/
theorem BnC_unlink {s : zT} {p : zP} {a : zS} {l1 l2 : List zS} (q : BnC s p (l1 ++ a :: l2)) (nd : (l1 ++ a :: l2).Nodup) : BnC (mBi_unlink s p a) p (l1 ++ l2) := by
  obtain ⟨r2, r3, r4, -⟩ := Bi_unl_rows s p a
  obtain ⟨qs, qp⟩ := q
  obtain ⟨m, g1, rfl, g2, g3⟩ := Sg_app.mp qs
  obtain ⟨n1, n2, nX⟩ := List.nodup_append.mp nd
  obtain ⟨nM, n3⟩ := List.nodup_cons.mp n2
  have z2 : s.1 2 m = 0 ↔ l2 = [] := by
    cases l2 with
    | nil => exact ⟨fun _ => rfl, fun _ => g3⟩
    | cons y ys => exact ⟨fun w => absurd (g3.1.symm.trans w) g3.2.1, fun w => by cases w⟩
  cases l1 with
  | nil =>
    have hm : m = s.1 4 p := g1.symm
    rw [if_pos hm] at r2 r4
    obtain ⟨p1, p2⟩ := qp
    refine ⟨by rw [r2, r4, zup_eq]; exact g3, ?_⟩
    cases l2 with
    | nil => trivial
    | cons y ys =>
      rw [if_neg (fun w => by have := z2.mp w; cases this)] at r3
      have ey : s.1 2 m = y := g3.1
      rw [r3, ey, p1]
      exact ⟨zup_eq, Bk_up (List.nodup_cons.mp n3).1 p2.2⟩
  | cons x xs =>
    have hx : s.1 4 p = x := g1.1
    have mx : m ≠ x := fun w => nX x List.mem_cons_self m List.mem_cons_self w.symm
    rw [hx, if_neg mx] at r2 r3 r4
    obtain ⟨p1, p2⟩ := qp
    obtain ⟨p3, p4, p5⟩ := Bk_app.mp p2
    have e1 : s.1 3 m = lst x xs := p4
    rw [e1] at r2 r3
    obtain ⟨l0, e0⟩ := lst_split (l := x :: xs) (p := 0) (by simp)
    have e0' : x :: xs = l0 ++ [lst x xs] := e0
    have hym : lst x xs ∈ x :: xs := lst_in (l := x :: xs) (p := 0) (by simp)
    have hlast : lst x (xs ++ m :: l2) = lst m l2 := by rw [lst_app]; rfl
    refine ⟨?_, ?_⟩
    · rw [r2, r4]
      generalize hy : lst x xs = y at *
      have hyl : y ∉ l0 := fun w => by
        rw [e0'] at n1
        exact (List.nodup_append.mp n1).2.2 y w y List.mem_cons_self rfl
      rw [e0'] at g1
      obtain ⟨k1, k2, k3⟩ := Sg_snoc.mp g1
      refine Sg_app.mpr ⟨s.1 2 m, ?_, Sg_up (fun w => nX y hym y (List.mem_cons_of_mem _ w) rfl) g3⟩
      rw [e0']
      exact Sg_snoc.mpr ⟨Sg_up hyl k1, k2, zup_eq⟩
    · obtain ⟨nx1, nx2⟩ := List.nodup_cons.mp n1
      cases l2 with
      | nil =>
        rw [if_pos (z2.mpr rfl)] at r3
        rw [List.append_nil, r3]
        exact ⟨zup_eq, Bk_up nx1 p3⟩
      | cons y ys =>
        rw [if_neg (fun w => by have := z2.mp w; cases this)] at r3
        have ey : s.1 2 m = y := g3.1
        rw [r3, ey]
        have hyx : y ∉ x :: xs := fun w => nX y w y (List.mem_cons_of_mem _ List.mem_cons_self) rfl
        refine ⟨?_, Bk_app.mpr ⟨Bk_up (fun w => hyx (List.mem_cons_of_mem _ w)) p3, zup_eq, Bk_up (List.nodup_cons.mp n3).1 p5.2⟩⟩
        rw [zup_ne (zne (fun w => hyx (by rw [← w]; exact List.mem_cons_self))), p1]
        show lst x (xs ++ m :: y :: ys) = lst x (xs ++ y :: ys)
        rw [hlast, lst_app]
        rfl
