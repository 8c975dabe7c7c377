/-! CHAINS IN ROWS -/
/-- from a along f through l to e -/
def Sg (f : Nat → zS) : zS → List zS → zS → Prop
  | a, [], e => a = e
  | a, x :: xs, e => a = x ∧ x ≠ 0 ∧ Sg f (f x) xs e
/-- g leads back along l, from its first one to p -/
def Bk (g : Nat → zS) : zS → List zS → Prop
  | _, [] => True
  | p, x :: xs => g x = p ∧ Bk g x xs
def lst : zS → List zS → zS
  | p, [] => p
  | _, x :: xs => lst x xs
theorem Sg_app {f : Nat → zS} : ∀ {l1 l2 : List zS} {a e : zS}, Sg f a (l1 ++ l2) e ↔ ∃ m, Sg f a l1 m ∧ Sg f m l2 e := by
  intro l1
  induction l1 with
  | nil => intro l2 a e; exact ⟨fun h => ⟨a, rfl, h⟩, fun ⟨m, h1, h2⟩ => by cases h1; exact h2⟩
  | cons x xs ih =>
    intro l2 a e
    refine ⟨fun ⟨h1, h2, h3⟩ => ?_, fun ⟨m, ⟨h1, h2, h3⟩, h4⟩ => ⟨h1, h2, ih.mpr ⟨m, h3, h4⟩⟩⟩
    obtain ⟨m, h4, h5⟩ := ih.mp h3
    exact ⟨m, ⟨h1, h2, h4⟩, h5⟩
theorem zne {a b : zS} (h : a ≠ b) : a.val ≠ b.val := fun q => h (Fin.ext q)
theorem Sg_up {f : Nat → zS} {b v : zS} : ∀ {l : List zS} {a e : zS}, b ∉ l → Sg f a l e → Sg (zup f b v) a l e := by
  intro l
  induction l with
  | nil => intro a e _ h; exact h
  | cons x xs ih =>
    intro a e hb h
    obtain ⟨h1, h2, h3⟩ := h
    refine ⟨h1, h2, ?_⟩
    rw [zup_ne (zne (fun q => hb (by rw [q]; exact List.mem_cons_self)))]
    exact ih (fun q => hb (List.mem_cons_of_mem _ q)) h3
theorem Sg_ne {f : Nat → zS} : ∀ {l : List zS} {a e x : zS}, Sg f a l e → x ∈ l → x ≠ 0 := by
  intro l
  induction l with
  | nil => intro a e x _ h; cases h
  | cons y ys ih =>
    intro a e x h hx
    rcases List.mem_cons.mp hx with rfl | hx
    · exact h.2.1
    · exact ih h.2.2 hx
theorem Sg_fun {f : Nat → zS} : ∀ {l : List zS} {a e e' : zS}, Sg f a l e → Sg f a l e' → e = e' := by
  intro l
  induction l with
  | nil => intro a e e' h h'; exact h.symm.trans h'
  | cons x xs ih => intro a e e' h h'; exact ih h.2.2 h'.2.2
theorem Sg_congr {f g : Nat → zS} : ∀ {l : List zS} {a e : zS}, (∀ x ∈ l, g x = f x) → Sg f a l e → Sg g a l e := by
  intro l
  induction l with
  | nil => intro a e _ h; exact h
  | cons x xs ih =>
    intro a e hg h
    refine ⟨h.1, h.2.1, ?_⟩
    rw [hg x List.mem_cons_self]
    exact ih (fun y hy => hg y (List.mem_cons_of_mem _ hy)) h.2.2
theorem Bk_app {g : Nat → zS} : ∀ {l1 l2 : List zS} {p : zS}, Bk g p (l1 ++ l2) ↔ Bk g p l1 ∧ Bk g (lst p l1) l2 := by
  intro l1
  induction l1 with
  | nil => intro l2 p; exact ⟨fun h => ⟨trivial, h⟩, fun h => h.2⟩
  | cons x xs ih => intro l2 p; exact ⟨fun h => ⟨⟨h.1, (ih.mp h.2).1⟩, (ih.mp h.2).2⟩, fun h => ⟨h.1.1, ih.mpr ⟨h.1.2, h.2⟩⟩⟩
theorem Bk_up {g : Nat → zS} {b v : zS} : ∀ {l : List zS} {p : zS}, b ∉ l → Bk g p l → Bk (zup g b v) p l := by
  intro l
  induction l with
  | nil => intro p _ h; exact h
  | cons x xs ih =>
    intro p hb h
    refine ⟨?_, ih (fun q => hb (List.mem_cons_of_mem _ q)) h.2⟩
    rw [zup_ne (zne (fun q => hb (by rw [q]; exact List.mem_cons_self)))]
    exact h.1
theorem Bk_congr {f g : Nat → zS} : ∀ {l : List zS} {p : zS}, (∀ x ∈ l, g x = f x) → Bk f p l → Bk g p l := by
  intro l
  induction l with
  | nil => intro p _ h; exact h
  | cons x xs ih => intro p hg h; exact ⟨(hg x List.mem_cons_self).trans h.1, ih (fun y hy => hg y (List.mem_cons_of_mem _ hy)) h.2⟩
theorem lst_app : ∀ {l1 l2 : List zS} {p : zS}, lst p (l1 ++ l2) = lst (lst p l1) l2 := by
  intro l1
  induction l1 with
  | nil => intro l2 p; rfl
  | cons x xs ih => intro l2 p; exact ih
theorem lst_mem : ∀ {l : List zS} {p : zS}, lst p l = p ∨ lst p l ∈ l := by
  intro l
  induction l with
  | nil => intro p; exact Or.inl rfl
  | cons x xs ih =>
    intro p
    rcases ih (p := x) with h | h
    · exact Or.inr (by show lst x xs ∈ _; rw [h]; exact List.mem_cons_self)
    · exact Or.inr (List.mem_cons_of_mem _ h)
theorem lst_in {l : List zS} {p : zS} (h : l ≠ []) : lst p l ∈ l := by
  cases l with
  | nil => exact absurd rfl h
  | cons x xs =>
    rcases lst_mem (l := xs) (p := x) with h1 | h1
    · show lst x xs ∈ _
      rw [h1]; exact List.mem_cons_self
    · exact List.mem_cons_of_mem _ h1
/-- a list that isn't empty ends in its last one -/
theorem lst_split {l : List zS} {p : zS} (h : l ≠ []) : ∃ l0, l = l0 ++ [lst p l] := by
  induction l generalizing p with
  | nil => exact absurd rfl h
  | cons x xs ih =>
    cases xs with
    | nil => exact ⟨[], rfl⟩
    | cons y ys =>
      obtain ⟨l0, h0⟩ := ih (p := x) (by simp)
      exact ⟨x :: l0, by show x :: (y :: ys) = x :: (l0 ++ [lst x (y :: ys)]); rw [← h0]⟩
/-- the last one's step is set -/
theorem Sg_snoc {f : Nat → zS} {l : List zS} {a x e : zS} : Sg f a (l ++ [x]) e ↔ Sg f a l x ∧ x ≠ 0 ∧ f x = e := by
  rw [Sg_app]
  constructor
  · rintro ⟨m, h1, h2, h3, h4⟩
    subst h2
    exact ⟨h1, h3, h4⟩
  · rintro ⟨h1, h2, h3⟩
    exact ⟨x, h1, rfl, h2, h3⟩
