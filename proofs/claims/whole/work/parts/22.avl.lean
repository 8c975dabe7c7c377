/-! THE TREES. zAv s d h a l: at most d levels deep, the tree at a is balanced, h high, and holds the slots l from left to right -/
def zAv (s : zT) : Nat → Nat → zS → List zS → Prop
  | 0, h, a, l => h = 0 ∧ a = 0 ∧ l = []
  | d + 1, h, a, l => (h = 0 ∧ a = 0 ∧ l = []) ∨ (a ≠ 0 ∧ ∃ (hl hr : Nat) (l1 l2 : List zS), zAv s d hl (s.1 6 a) l1 ∧ zAv s d hr (s.1 7 a) l2 ∧ h = max hl hr + 1 ∧ hl ≤ hr + 1 ∧ hr ≤ hl + 1 ∧ s.2 1 a = nI h ∧ l = l1 ++ a :: l2)
def zAt (s : zT) (h : Nat) (a : zS) (l : List zS) : Prop := ∃ d, zAv s d h a l
theorem zAv_succ {s : zT} : ∀ {d h : Nat} {a : zS} {l : List zS}, zAv s d h a l → zAv s (d + 1) h a l := by
  intro d
  induction d with
  | zero => intro h a l q; exact Or.inl q
  | succ d ih =>
    intro h a l q
    rcases q with q | ⟨a0, hl, hr, l1, l2, q1, q2, q3⟩
    · exact Or.inl q
    · exact Or.inr ⟨a0, hl, hr, l1, l2, ih q1, ih q2, q3⟩
theorem zAv_mono {s : zT} {d d' h : Nat} {a : zS} {l : List zS} (q : zAv s d h a l) (hd : d ≤ d') : zAv s d' h a l := by
  induction hd with
  | refl => exact q
  | step _ ih => exact zAv_succ ih
theorem zAt_nil (s : zT) : zAt s 0 0 [] := ⟨0, rfl, rfl, rfl⟩
theorem zAt_node {s : zT} {hl hr h : Nat} {a : zS} {l1 l2 l : List zS} (q1 : zAt s hl (s.1 6 a) l1) (q2 : zAt s hr (s.1 7 a) l2) (a0 : a ≠ 0) (h1 : hl ≤ hr + 1) (h2 : hr ≤ hl + 1) (e : h = max hl hr + 1) (h3 : s.2 1 a = nI h) (el : l = l1 ++ a :: l2) : zAt s h a l := by
  obtain ⟨d1, q1⟩ := q1
  obtain ⟨d2, q2⟩ := q2
  exact ⟨max d1 d2 + 1, Or.inr ⟨a0, hl, hr, l1, l2, zAv_mono q1 (by omega), zAv_mono q2 (by omega), e, h1, h2, h3, el⟩⟩
theorem zAt_cases {s : zT} {h : Nat} {a : zS} {l : List zS} (q : zAt s h a l) : (h = 0 ∧ a = 0 ∧ l = []) ∨ (a ≠ 0 ∧ ∃ (hl hr : Nat) (l1 l2 : List zS), zAt s hl (s.1 6 a) l1 ∧ zAt s hr (s.1 7 a) l2 ∧ h = max hl hr + 1 ∧ hl ≤ hr + 1 ∧ hr ≤ hl + 1 ∧ s.2 1 a = nI h ∧ l = l1 ++ a :: l2) := by
  obtain ⟨d, q⟩ := q
  cases d with
  | zero => exact Or.inl q
  | succ d =>
    rcases q with q | ⟨a0, hl, hr, l1, l2, q1, q2, q3⟩
    · exact Or.inl q
    · exact Or.inr ⟨a0, hl, hr, l1, l2, ⟨d, q1⟩, ⟨d, q2⟩, q3⟩
theorem zAv_congr {s s' : zT} : ∀ {d h : Nat} {a : zS} {l : List zS}, (∀ x ∈ l, s'.1 6 x = s.1 6 x ∧ s'.1 7 x = s.1 7 x ∧ s'.2 1 x = s.2 1 x) → zAv s d h a l → zAv s' d h a l := by
  intro d
  induction d with
  | zero => intro h a l _ q; exact q
  | succ d ih =>
    intro h a l hc q
    rcases q with q | ⟨a0, hl, hr, l1, l2, q1, q2, q3, q4, q5, q6, rfl⟩
    · exact Or.inl q
    · obtain ⟨c1, c2, c3⟩ := hc a (List.mem_append_right _ List.mem_cons_self)
      refine Or.inr ⟨a0, hl, hr, l1, l2, ?_, ?_, q3, q4, q5, c3.trans q6, rfl⟩
      · rw [c1]
        exact ih (fun x hx => hc x (List.mem_append_left _ hx)) q1
      · rw [c2]
        exact ih (fun x hx => hc x (List.mem_append_right _ (List.mem_cons_of_mem _ hx))) q2
theorem zAt_congr {s s' : zT} {h : Nat} {a : zS} {l : List zS} (hc : ∀ x ∈ l, s'.1 6 x = s.1 6 x ∧ s'.1 7 x = s.1 7 x ∧ s'.2 1 x = s.2 1 x) (q : zAt s h a l) : zAt s' h a l := by
  obtain ⟨d, q⟩ := q
  exact ⟨d, zAv_congr hc q⟩
theorem zAt_0 {s : zT} {h : Nat} {a : zS} {l : List zS} (q : zAt s h a l) : (a = 0 ↔ h = 0) ∧ (a = 0 ↔ l = []) := by
  rcases zAt_cases q with ⟨h1, h2, h3⟩ | ⟨a0, hl, hr, l1, l2, -, -, e, -, -, -, rfl⟩
  · exact ⟨⟨fun _ => h1, fun _ => h2⟩, ⟨fun _ => h3, fun _ => h2⟩⟩
  · exact ⟨⟨fun z => absurd z a0, fun z => by omega⟩, ⟨fun z => absurd z a0, fun z => by simp at z⟩⟩
theorem zAt_h {s : zT} {h : Nat} {a : zS} {l : List zS} (z : s.2 1 0 = 0) (q : zAt s h a l) : s.2 1 a = nI h := by
  rcases zAt_cases q with ⟨h1, h2, h3⟩ | ⟨a0, hl, hr, l1, l2, -, -, e, -, -, q6, -⟩
  · rw [h1, h2]
    exact z
  · exact q6
theorem zAt_mem {s : zT} {h : Nat} {a : zS} {l : List zS} (q : zAt s h a l) (a0 : a ≠ 0) : a ∈ l := by
  rcases zAt_cases q with ⟨h1, h2, h3⟩ | ⟨-, hl, hr, l1, l2, -, -, e, -, -, q6, rfl⟩
  · exact absurd h2 a0
  · exact List.mem_append_right _ List.mem_cons_self
theorem zAv_ne {s : zT} : ∀ {d h : Nat} {a : zS} {l : List zS}, zAv s d h a l → ∀ x ∈ l, x ≠ 0 := by
  intro d
  induction d with
  | zero => intro h a l q x hx; rw [q.2.2] at hx; cases hx
  | succ d ih =>
    intro h a l q x hx
    rcases q with q | ⟨a0, hl, hr, l1, l2, q1, q2, q3, q4, q5, q6, rfl⟩
    · rw [q.2.2] at hx; cases hx
    · rcases List.mem_append.mp hx with hx | hx
      · exact ih q1 x hx
      · rcases List.mem_cons.mp hx with rfl | hx
        · exact a0
        · exact ih q2 x hx
theorem zAt_ne {s : zT} {h : Nat} {a : zS} {l : List zS} (q : zAt s h a l) : ∀ x ∈ l, x ≠ 0 := by
  obtain ⟨d, q⟩ := q
  exact zAv_ne q
theorem zAv_len {s : zT} : ∀ {d h : Nat} {a : zS} {l : List zS}, zAv s d h a l → 2 ^ (h / 2) ≤ l.length + 1 := by
  intro d
  induction d with
  | zero => intro h a l q; rw [q.1]; simp
  | succ d ih =>
    intro h a l q
    rcases q with q | ⟨a0, hl, hr, l1, l2, q1, q2, q3, q4, q5, q6, rfl⟩
    · rw [q.1]; simp
    · have i1 := ih q1
      have i2 := ih q2
      have e : (l1 ++ a :: l2).length + 1 = (l1.length + 1) + (l2.length + 1) := by simp; omega
      rw [e]
      by_cases h1 : h = 1
      · rw [h1]
        simp
        omega
      · have k1 : 2 ^ (h / 2 - 1) ≤ 2 ^ (hl / 2) := Nat.pow_le_pow_right (by decide) (by omega)
        have k2 : 2 ^ (h / 2 - 1) ≤ 2 ^ (hr / 2) := Nat.pow_le_pow_right (by decide) (by omega)
        have k3 : 2 ^ (h / 2) = 2 ^ (h / 2 - 1) * 2 := by
          rw [← Nat.pow_succ]
          congr 1
          omega
        omega
/-- 2001 slots make no tree higher than 21 -/
theorem zAt_21 {s : zT} {h : Nat} {a : zS} {l : List zS} (q : zAt s h a l) (hl : l.length ≤ 2001) : h ≤ 21 := by
  obtain ⟨d, q⟩ := q
  have h1 := zAv_len q
  rcases Nat.lt_or_ge 21 h with h2 | h2
  · have h3 : 2 ^ 11 ≤ 2 ^ (h / 2) := Nat.pow_le_pow_right (by decide) (by omega)
    have h4 : (2 : Nat) ^ 11 = 2048 := by decide
    omega
  · exact h2
/-- by their keys in order -/
abbrev Srt (s : zT) (l : List zS) : Prop := l.Pairwise (fun x y : zS => s.2 0 x < s.2 0 y)
theorem i32_lt_irrefl (x : Int32) : ¬ x < x := by rw [Int32.lt_iff_toInt_lt]; omega
theorem Srt_node {s : zT} {l1 l2 : List zS} {a : zS} (h : Srt s (l1 ++ a :: l2)) : Srt s l1 ∧ Srt s l2 ∧ (∀ x ∈ l1, s.2 0 x < s.2 0 a) ∧ (∀ x ∈ l2, s.2 0 a < s.2 0 x) := by
  obtain ⟨h1, h2, h3⟩ := List.pairwise_append.mp h
  obtain ⟨h4, h5⟩ := List.pairwise_cons.mp h2
  exact ⟨h1, h5, fun x hx => h3 x hx a List.mem_cons_self, h4⟩
theorem find_spec {s : zT} {key : Int32} : ∀ {n h : Nat} {a : zS} {l : List zS}, zAt s h a l → Srt s l → h ≤ n → (∀ x ∈ l, s.2 0 x = key → mTr_find s key n a = x) ∧ ((∀ x ∈ l, ¬ s.2 0 x = key) → mTr_find s key n a = 0) := by
  intro n
  induction n with
  | zero =>
    intro h a l q _ hn
    have : l = [] := (zAt_0 q).2.mp ((zAt_0 q).1.mpr (by omega))
    rw [this]
    exact ⟨fun x hx => (by cases hx), fun _ => rfl⟩
  | succ n ih =>
    intro h a l q hs hn
    rcases zAt_cases q with ⟨h1, h2, h3⟩ | ⟨a0, hl, hr, l1, l2, q1, q2, e, -, -, q6, rfl⟩
    · rw [h3, mTr_find, if_pos h2]
      exact ⟨fun x hx => (by cases hx), fun _ => rfl⟩
    · obtain ⟨s1, s2, s3, s4⟩ := Srt_node hs
      rw [mTr_find, if_neg a0]
      by_cases hk : s.2 0 a = key
      · rw [if_pos hk]
        refine ⟨fun x hx hxk => ?_, fun hno => absurd hk (hno a (List.mem_append_right _ List.mem_cons_self))⟩
        rcases List.mem_append.mp hx with hx | hx
        · have w := s3 x hx
          rw [hxk, hk] at w
          exact absurd w (i32_lt_irrefl key)
        · rcases List.mem_cons.mp hx with rfl | hx
          · rfl
          · have w := s4 x hx
            rw [hxk, hk] at w
            exact absurd w (i32_lt_irrefl key)
      · rw [if_neg hk]
        by_cases hle : s.2 0 a ≤ key
        · rw [if_pos hle]
          obtain ⟨g1, g2⟩ := ih q2 s2 (by omega)
          refine ⟨fun x hx hxk => ?_, fun hno => g2 (fun x hx => hno x (List.mem_append_right _ (List.mem_cons_of_mem _ hx)))⟩
          rcases List.mem_append.mp hx with hx | hx
          · have := s3 x hx
            rw [hxk, Int32.lt_iff_toInt_lt] at this
            rw [Int32.le_iff_toInt_le] at hle
            omega
          · rcases List.mem_cons.mp hx with rfl | hx
            · exact absurd hxk hk
            · exact g1 x hx hxk
        · rw [if_neg hle]
          obtain ⟨g1, g2⟩ := ih q1 s1 (by omega)
          refine ⟨fun x hx hxk => ?_, fun hno => g2 (fun x hx => hno x (List.mem_append_left _ hx))⟩
          rcases List.mem_append.mp hx with hx | hx
          · exact g1 x hx hxk
          · rcases List.mem_cons.mp hx with rfl | hx
            · exact absurd hxk hk
            · have := s4 x hx
              rw [hxk, Int32.lt_iff_toInt_lt] at this
              rw [Int32.le_iff_toInt_le] at hle
              omega
theorem over_eq {s : zT} {a : zS} {hl hr : Nat} (e1 : s.2 1 (s.1 6 a) = nI hl) (e2 : s.2 1 (s.1 7 a) = nI hr) (b1 : hl < 2 ^ 30) (b2 : hr < 2 ^ 30) : mTr_over s a = nI (max hl hr + 1) := by
  unfold mTr_over
  rw [e1, e2]
  have c : ∀ n : Nat, 1 + nI n = nI (n + 1) := fun n => by rw [show (1 : Int32) = nI 1 from rfl, nI_add, Nat.add_comm]
  by_cases h : hl < hr
  · rw [if_pos ((nI_ltI (by omega) (by omega)).mpr h), c, show max hl hr = hr by omega]
  · rw [if_neg (fun q => h ((nI_ltI (by omega) (by omega)).mp q)), c, show max hl hr = hl by omega]
