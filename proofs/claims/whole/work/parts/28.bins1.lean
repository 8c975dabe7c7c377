/-! THE BINS: bn p: the chain at a place; beside it a tree, where there is a root -/
abbrev plc (s : zT) (a : zS) : zP := mBi_place s (s.2 0 a)
def BinOk (s : zT) (p : zP) (b : List zS) : Prop := BnC s p b ∧ ((s.1 5 p = 0 ∧ b.length ≤ 8) ∨ (s.1 5 p ≠ 0 ∧ ∃ (h : Nat) (l : List zS), 3 ≤ h ∧ zAt s h (s.1 5 p) l ∧ Srt s l ∧ l.Perm b))
def KD (s : zT) (l : List zS) : Prop := ∀ x ∈ l, ∀ y ∈ l, s.2 0 x = s.2 0 y → x = y
def BI (s : zT) (ln : List zS) (bn : zP → List zS) : Prop :=
  s.2 1 0 = 0 ∧ KD s ln ∧ (∀ x ∈ ln, x ≠ 0) ∧ ln.Nodup ∧ ln.length ≤ 2001 ∧ ∀ p : zP, BinOk s p (bn p) ∧ (bn p).Perm (ln.filter (fun a => decide (plc s a = p)))
theorem KD_sub {s : zT} {l l' : List zS} (h : KD s l) (hs : ∀ x ∈ l', x ∈ l) : KD s l' := fun x hx y hy => h x (hs x hx) y (hs y hy)
theorem findL_spec {s : zT} {k : Int32} : ∀ {n : Nat} {l : List zS} {a : zS}, Sg (s.1 2) a l 0 → l.length ≤ n → KD s l →
    (∀ x ∈ l, s.2 0 x = k → mBi_findL s k n a = x) ∧ ((∀ x ∈ l, ¬ s.2 0 x = k) → mBi_findL s k n a = 0) := by
  intro n
  induction n with
  | zero =>
    intro l a hs hl _
    cases l with
    | nil => exact ⟨fun x hx => (by cases hx), fun _ => rfl⟩
    | cons y ys => simp at hl
  | succ n ih =>
    intro l a hs hl hd
    cases l with
    | nil =>
      have ha : a = 0 := hs
      exact ⟨fun x hx => (by cases hx), fun _ => by rw [mBi_findL, if_pos ha]⟩
    | cons y ys =>
      obtain ⟨e, h0, h2⟩ := hs
      obtain ⟨i1, i2⟩ := ih h2 (by simpa using hl) (KD_sub hd (fun x hx => List.mem_cons_of_mem _ hx))
      refine ⟨fun x hx hk => ?_, fun hn => ?_⟩
      · rw [mBi_findL, e, if_neg h0]
        by_cases c : s.2 0 y = k
        · rw [if_pos c]; exact hd y List.mem_cons_self x hx (c.trans hk.symm)
        · rw [if_neg c]
          rcases List.mem_cons.mp hx with e | hx
          · rw [e] at hk; exact absurd hk c
          · exact i1 x hx hk
      · rw [mBi_findL, e, if_neg h0, if_neg (hn y List.mem_cons_self)]
        exact i2 (fun x hx => hn x (List.mem_cons_of_mem _ hx))
theorem longL_spec {s : zT} : ∀ {n : Nat} {l : List zS} {a : zS}, Sg (s.1 2) a l 0 → (mBi_longL s n a = 0 ↔ l.length ≤ n) := by
  intro n
  induction n with
  | zero =>
    intro l a hs
    cases l with
    | nil => exact ⟨fun _ => Nat.zero_le _, fun _ => hs⟩
    | cons y ys => exact ⟨fun h => absurd (hs.1.symm.trans h) hs.2.1, fun h => by simp at h⟩
  | succ n ih =>
    intro l a hs
    cases l with
    | nil =>
      have ha : a = 0 := hs
      exact ⟨fun _ => Nat.zero_le _, fun _ => by rw [mBi_longL, if_pos ha]; exact ha⟩
    | cons y ys =>
      obtain ⟨e, h0, h2⟩ := hs
      rw [mBi_longL, e, if_neg h0, ih h2]
      simp
theorem lenL_spec {s : zT} : ∀ {n i : Nat} {l : List zS} {a : zS}, Sg (s.1 2) a l 0 → l.length ≤ n → mBi_lenL s n i a = nI (i + l.length) := by
  intro n
  induction n with
  | zero =>
    intro i l a hs hl
    cases l with
    | nil => rfl
    | cons y ys => simp at hl
  | succ n ih =>
    intro i l a hs hl
    cases l with
    | nil =>
      have ha : a = 0 := hs
      rw [mBi_lenL, if_pos ha]; rfl
    | cons y ys =>
      obtain ⟨e, h0, h2⟩ := hs
      rw [mBi_lenL, e, if_neg h0, ih h2 (by simpa using hl)]
      congr 1
      simp; omega
theorem BI_mem {s : zT} {ln : List zS} {bn : zP → List zS} (h : BI s ln bn) {p : zP} {x : zS} : x ∈ bn p ↔ x ∈ ln ∧ plc s x = p := by
  rw [(h.2.2.2.2.2 p).2.mem_iff, List.mem_filter, decide_eq_true_eq]
theorem BI_len {s : zT} {ln : List zS} {bn : zP → List zS} (h : BI s ln bn) (p : zP) : (bn p).length ≤ ln.length := by
  rw [(h.2.2.2.2.2 p).2.length_eq]
  exact List.length_filter_le _ _
theorem BI_find {s : zT} {ln : List zS} {bn : zP → List zS} (h : BI s ln bn) (k : Int32) : (∀ x ∈ ln, s.2 0 x = k → mBi_find s k = x) ∧ ((∀ x ∈ ln, ¬ s.2 0 x = k) → mBi_find s k = 0) := by
  have hl := h.2.2.2.2.1
  have hp := h.2.2.2.2.2 (mBi_place s k)
  have i1 : ∀ x ∈ ln, s.2 0 x = k → x ∈ bn (mBi_place s k) := fun x hx hk => (BI_mem h).mpr ⟨hx, by show mBi_place s (s.2 0 x) = _; rw [hk]⟩
  have i2 : ∀ x ∈ bn (mBi_place s k), x ∈ ln := fun x hx => ((BI_mem h).mp hx).1
  have hln := BI_len h (mBi_place s k)
  unfold mBi_find
  rcases hp.1.2 with ⟨r0, l8⟩ | ⟨r0, hh, l, h3, t, st, pm⟩
  · rw [if_pos r0]
    obtain ⟨f1, f2⟩ := findL_spec (k := k) hp.1.1.1 l8 (KD_sub h.2.1 i2)
    exact ⟨fun x hx hk => f1 x (i1 x hx hk) hk, fun hn => f2 (fun x hx => hn x (i2 x hx))⟩
  · rw [if_neg r0]
    have h21 := zAt_21 t (by rw [pm.length_eq]; omega)
    obtain ⟨f1, f2⟩ := find_spec (key := k) (n := 40) t st (by omega)
    exact ⟨fun x hx hk => f1 x (pm.mem_iff.mpr (i1 x hx hk)) hk, fun hn => f2 (fun x hx => hn x (i2 x (pm.mem_iff.mp hx)))⟩
theorem place_cg {s s' : zT} (hr : s'.2 4 3 = s.2 4 3) (hf : s'.2 4 4 = s.2 4 4) (k : Int32) : mBi_place s' k = mBi_place s k := by
  unfold mBi_place mBi_code
  simp only [hr, hf]
theorem Srt_cg {s s' : zT} {l : List zS} (h : ∀ x ∈ l, s'.2 0 x = s.2 0 x) (q : Srt s l) : Srt s' l :=
  List.Pairwise.imp_of_mem (fun {x y} hx hy (c : s.2 0 x < s.2 0 y) => by show s'.2 0 x < s'.2 0 y; rw [h x hx, h y hy]; exact c) q
theorem BI_congr {s s' : zT} {ln : List zS} {bn : zP → List zS} (r : ∀ q, 2 ≤ q → q ≤ 7 → s'.1 q = s.1 q) (h1 : s'.2 1 = s.2 1) (hr : s'.2 4 3 = s.2 4 3) (hf : s'.2 4 4 = s.2 4 4) (hk : ∀ x ∈ ln, s'.2 0 x = s.2 0 x) (h : BI s ln bn) : BI s' ln bn := by
  have hm := @BI_mem s ln bn h
  obtain ⟨z, hd, h0, nd, hl, hb⟩ := h
  have ep : ∀ x ∈ ln, plc s' x = plc s x := fun x hx => by
    show mBi_place s' (s'.2 0 x) = mBi_place s (s.2 0 x)
    rw [hk x hx, place_cg hr hf]
  refine ⟨by rw [h1]; exact z, fun x hx y hy e => hd x hx y hy (by rw [← hk x hx, ← hk y hy]; exact e), h0, nd, hl, fun p => ⟨⟨?_, ?_⟩, ?_⟩⟩
  · exact BnC_congr (fun x _ => by rw [r 2 (by decide) (by decide)]) (fun x _ => by rw [r 3 (by decide) (by decide)]) (by rw [r 4 (by decide) (by decide)]) (hb p).1.1
  · rw [r 5 (by decide) (by decide)]
    rcases (hb p).1.2 with g | ⟨g, hh, l, g1, g2, g3, g4⟩
    · exact Or.inl g
    · exact Or.inr ⟨g, hh, l, g1, zAt_congr (fun x _ => ⟨by rw [r 6 (by decide) (by decide)], by rw [r 7 (by decide) (by decide)], by rw [h1]⟩) g2, Srt_cg (fun x hx => hk x (hm.mp (g4.mem_iff.mp hx)).1) g3, g4⟩
  · have e : ln.filter (fun a => decide (plc s' a = p)) = ln.filter (fun a => decide (plc s a = p)) := List.filter_congr (fun x hx => by rw [ep x hx])
    rw [e]
    exact (hb p).2
theorem BI_perm {s : zT} {ln ln' : List zS} {bn : zP → List zS} (pm : ln.Perm ln') (h : BI s ln bn) : BI s ln' bn := by
  obtain ⟨z, hd, h0, nd, hl, hb⟩ := h
  exact ⟨z, KD_sub hd (fun x hx => pm.mem_iff.mpr hx), fun x hx => h0 x (pm.mem_iff.mpr hx), pm.nodup_iff.mp nd, by rw [← pm.length_eq]; exact hl, fun p => ⟨(hb p).1, (hb p).2.trans (pm.filter _)⟩⟩
/-- what isn't in l keeps its links -/
def offR (s s' : zT) (l : List zS) : Prop := ∀ x : zS, x ∉ l → s'.1 2 x = s.1 2 x ∧ s'.1 3 x = s.1 3 x ∧ s'.1 6 x = s.1 6 x ∧ s'.1 7 x = s.1 7 x ∧ s'.2 1 x = s.2 1 x
theorem BI_step {s s' : zT} {ln ln' : List zS} {bn : zP → List zS} {p : zP} {b' l : List zS} (h : BI s ln bn) (z : s'.2 1 0 = 0) (k0 : s'.2 0 = s.2 0) (k4 : s'.2 4 = s.2 4)
    (hd : KD s ln') (h0 : ∀ x ∈ ln', x ≠ 0) (nd : ln'.Nodup) (hl : ln'.length ≤ 2001) (hq : ∀ q, q ≠ p → (bn q).Perm (ln'.filter (fun a => decide (plc s a = q))))
    (hb : BinOk s' p b') (hbp : b'.Perm (ln'.filter (fun a => decide (plc s a = p)))) (ho : offR s s' l) (hlp : ∀ x ∈ l, plc s x = p) (r4 : ∀ q : zP, q ≠ p → s'.1 4 q = s.1 4 q) (r5 : ∀ q : zP, q ≠ p → s'.1 5 q = s.1 5 q) :
    BI s' ln' (fun q => if q = p then b' else bn q) := by
  have hm := @BI_mem s ln bn h
  have ep : ∀ x : zS, plc s' x = plc s x := fun x => by
    show mBi_place s' (s'.2 0 x) = mBi_place s (s.2 0 x)
    rw [k0]
    exact place_cg (by rw [k4]) (by rw [k4]) _
  refine ⟨z, fun x hx y hy e => hd x hx y hy (by rw [← k0]; exact e), h0, nd, hl, fun q => ?_⟩
  have ef : ln'.filter (fun a => decide (plc s' a = q)) = ln'.filter (fun a => decide (plc s a = q)) := List.filter_congr (fun x _ => by rw [ep x])
  rw [ef]
  dsimp only
  by_cases c : q = p
  · subst c
    rw [if_pos rfl]
    exact ⟨hb, hbp⟩
  · rw [if_neg c]
    refine ⟨⟨?_, ?_⟩, hq q c⟩
    · have hx : ∀ x ∈ bn q, x ∉ l := fun x hx hxl => c ((hm.mp hx).2.symm.trans (hlp x hxl))
      exact BnC_congr (fun x g => (ho x (hx x g)).1) (fun x g => (ho x (hx x g)).2.1) (r4 q c) (h.2.2.2.2.2 q).1.1
    · rw [r5 q c]
      rcases (h.2.2.2.2.2 q).1.2 with g | ⟨g, hh, l2, g1, g2, g3, g4⟩
      · exact Or.inl g
      · have hx : ∀ x ∈ l2, x ∉ l := fun x hx hxl => c ((hm.mp (g4.mem_iff.mp hx)).2.symm.trans (hlp x hxl))
        exact Or.inr ⟨g, hh, l2, g1, zAt_congr (fun x gx => (ho x (hx x gx)).2.2) g2, Srt_cg (fun x _ => by rw [k0]) g3, g4⟩
theorem zAv_up {s : zT} : ∀ {d h : Nat} {a : zS} {l : List zS}, zAv s d h a l → l.length + 1 ≤ 2 ^ h := by
  intro d
  induction d with
  | zero =>
    intro h a l q
    obtain ⟨rfl, -, rfl⟩ := q
    decide
  | succ d ih =>
    intro h a l q
    rcases q with ⟨rfl, -, rfl⟩ | ⟨-, hl, hr, l1, l2, q1, q2, e, -, -, -, el⟩
    · decide
    · have i1 := ih q1
      have i2 := ih q2
      have j1 : 2 ^ hl ≤ 2 ^ (max hl hr) := Nat.pow_le_pow_right (by decide) (Nat.le_max_left _ _)
      have j2 : 2 ^ hr ≤ 2 ^ (max hl hr) := Nat.pow_le_pow_right (by decide) (Nat.le_max_right _ _)
      rw [e, el, Nat.pow_succ]
      simp only [List.length_append, List.length_cons]
      omega
theorem zAt_3 {s : zT} {h : Nat} {a : zS} {l : List zS} (q : zAt s h a l) (hl : 4 ≤ l.length) : 3 ≤ h := by
  obtain ⟨d, q⟩ := q
  have := zAv_up q
  rcases Nat.lt_or_ge h 3 with c | c
  · have : 2 ^ h ≤ 2 ^ 2 := Nat.pow_le_pow_right (by decide) (by omega)
    omega
  · exact c
theorem zAt_len2 {s : zT} {h : Nat} {a : zS} {l : List zS} (q : zAt s h a l) (hh : h ≤ 2) : l.length ≤ 3 := by
  obtain ⟨d, q⟩ := q
  have := zAv_up q
  have : 2 ^ h ≤ 2 ^ 2 := Nat.pow_le_pow_right (by decide) hh
  omega
theorem zAt_1 {s : zT} {h : Nat} {a : zS} {l : List zS} (q : zAt s h a l) (hh : 1 ≤ h) : 1 ≤ l.length := by
  rcases zAt_cases q with ⟨e, -, -⟩ | ⟨-, hl, hr, l1, l2, q1, q2, e, -, -, -, el⟩
  · omega
  · rw [el]; simp; omega
theorem zAt_2 {s : zT} {h : Nat} {a : zS} {l : List zS} (q : zAt s h a l) (hh : 2 ≤ h) : 2 ≤ l.length := by
  rcases zAt_cases q with ⟨e, -, -⟩ | ⟨-, hl, hr, l1, l2, q1, q2, e, b1, b2, -, el⟩
  · omega
  · rw [el]
    simp only [List.length_append, List.length_cons]
    rcases Nat.lt_or_ge 0 hl with c | c
    · have := zAt_1 q1 c; omega
    · have := zAt_1 q2 (by omega); omega
theorem zAt_4 {s : zT} {h : Nat} {a : zS} {l : List zS} (q : zAt s h a l) (hh : 3 ≤ h) : 4 ≤ l.length := by
  rcases zAt_cases q with ⟨e, -, -⟩ | ⟨-, hl, hr, l1, l2, q1, q2, e, b1, b2, -, el⟩
  · omega
  · rw [el]
    simp only [List.length_append, List.length_cons]
    have c1 := zAt_1 q1 (by omega)
    have c2 := zAt_1 q2 (by omega)
    rcases Nat.lt_or_ge 1 hl with c | c
    · have := zAt_2 q1 c; omega
    · have := zAt_2 q2 (by omega); omega
