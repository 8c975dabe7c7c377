/-! DOWN THE TREE -/
theorem so_8 (s : zT) (i : Nat) (v : zS) : so s (u1 s 8 i v) [] := fun _ _ => ⟨u1_off (by decide), u1_off (by decide), rfl⟩
theorem zAt_8 {s : zT} {i h : Nat} {v a : zS} {l : List zS} (q : zAt s h a l) : zAt (u1 s 8 i v) h a l := zAt_so (so_8 s i v) (fun _ _ q => by cases q) q
theorem Zp_8 {s : zT} {key : Int32} {d h : Nat} {v : zS} {lb la : List zS} (q : Zp s key d h lb la) : Zp (u1 s 8 d v) key d h lb la :=
  Zp_congr (s := s) (s' := u1 s 8 d v) rfl (so_8 s d v) (fun i hi => by rw [u1_at, if_neg (by omega)]) (fun _ _ q => by cases q) (fun _ _ q => by cases q) q
/-- the path, one down -/
theorem Zp_R {s : zT} {key : Int32} {d hl hr : Nat} {a : zS} {l1 lb la : List zS} (q : Zp s key d (max hl hr + 1) lb la) (a0 : a ≠ 0) (q1 : zAt s hl (s.1 6 a) l1) (b1 : hl ≤ hr + 1) (b2 : hr ≤ hl + 1) (c : s.2 0 a ≤ key) : Zp (u1 s 8 d a) key (d + 1) hr (lb ++ (l1 ++ [a])) la := by
  have e : (u1 s 8 d a).1 8 d = a := by rw [u1_at, if_pos rfl]
  refine ⟨by rw [e]; exact a0, hl, l1, lb, la, b1, b2, by rw [Nat.max_comm]; exact Zp_8 q, Or.inl ⟨by rw [e]; exact c, ?_, by rw [e], rfl⟩⟩
  rw [e, u1_off (by decide)]
  exact zAt_8 q1
theorem Zp_L {s : zT} {key : Int32} {d hl hr : Nat} {a : zS} {l2 lb la : List zS} (q : Zp s key d (max hl hr + 1) lb la) (a0 : a ≠ 0) (q2 : zAt s hr (s.1 7 a) l2) (b1 : hl ≤ hr + 1) (b2 : hr ≤ hl + 1) (c : ¬ s.2 0 a ≤ key) : Zp (u1 s 8 d a) key (d + 1) hl lb (a :: (l2 ++ la)) := by
  have e : (u1 s 8 d a).1 8 d = a := by rw [u1_at, if_pos rfl]
  refine ⟨by rw [e]; exact a0, hr, l2, lb, la, b2, b1, Zp_8 q, Or.inr ⟨by rw [e]; exact c, ?_, rfl, by rw [e]⟩⟩
  rw [e, u1_off (by decide)]
  exact zAt_8 q2
theorem i32_lt_of {x y : Int32} (h : x ≤ y) (hn : ¬ x = y) : x < y := by
  rw [Int32.lt_iff_toInt_lt]
  rw [Int32.le_iff_toInt_le] at h
  have : x.toInt ≠ y.toInt := fun q => hn (Int32.toInt_inj.mp q)
  omega
theorem i32_lt_nle {x y : Int32} (h : ¬ x ≤ y) : y < x := by
  rw [Int32.lt_iff_toInt_lt]
  rw [Int32.le_iff_toInt_le] at h
  omega
theorem i32_tr {x y w : Int32} (h : x < y) (k : y < w) : x < w := by
  rw [Int32.lt_iff_toInt_lt] at *
  omega
/-- the slot isn't in the tree -/
theorem desc_in {b : zS} : ∀ {n d h : Nat} {lb la l : List zS} {a : zS} {s : zT}, zAt s h a l → Zp s (s.2 0 b) d h lb la → h ≤ n → b ∉ l → (∀ x ∈ lb, s.2 0 x < s.2 0 b) → (∀ x ∈ la, s.2 0 b < s.2 0 x) → Srt s l → (∀ x ∈ l, ¬ s.2 0 x = s.2 0 b) →
    ∃ lb2 la2, Zp (mTr_desc b n d a s).2 (s.2 0 b) (mTr_desc b n d a s).1 0 lb2 la2 ∧ lb2 ++ la2 = lb ++ (l ++ la) ∧ (∀ x ∈ lb2, s.2 0 x < s.2 0 b) ∧ (∀ x ∈ la2, s.2 0 b < s.2 0 x) ∧ (mTr_desc b n d a s).2.2 = s.2 ∧ ∀ r, r ≠ 8 → (mTr_desc b n d a s).2.1 r = s.1 r := by
  intro n
  induction n with
  | zero =>
    intro d h lb la l a s q qz hn _ k1 k2 _ _
    have h0 : h = 0 := by omega
    have : l = [] := (zAt_0 q).2.mp ((zAt_0 q).1.mpr h0)
    subst this; subst h0
    exact ⟨lb, la, qz, rfl, k1, k2, rfl, fun _ _ => rfl⟩
  | succ n ih =>
    intro d h lb la l a s q qz hn hb k1 k2 hs hk
    rcases zAt_cases q with ⟨h1, h2, h3⟩ | ⟨a0, hl, hr, l1, l2, q1, q2, e, b1, b2, q6, rfl⟩
    · subst h1; subst h3
      rw [mTr_desc, if_pos h2]
      exact ⟨lb, la, qz, rfl, k1, k2, rfl, fun _ _ => rfl⟩
    · have ma : a ∈ l1 ++ a :: l2 := List.mem_append_right _ List.mem_cons_self
      have ab : ¬ a = b := fun q => hb (q ▸ ma)
      obtain ⟨s1, s2, s3, s4⟩ := Srt_node hs
      subst e
      by_cases c : s.2 0 a ≤ s.2 0 b
      · have hlt := i32_lt_of c (hk a ma)
        have em : mTr_desc b (n + 1) d a s = mTr_desc b n (d + 1) (s.1 7 a) (u1 s 8 d a) := by
          rw [mTr_desc, if_neg a0, if_neg ab]
          try dsimp only
          rw [show (u1 s 8 d a).2 = s.2 from rfl, if_pos c, u1_off (by decide)]
        obtain ⟨lb2, la2, g1, g2, g3, g4, g5, g6⟩ := ih (s := u1 s 8 d a) (zAt_8 q2) (Zp_R qz a0 q1 b1 b2 c) (by omega) (fun q => hb (List.mem_append_right _ (List.mem_cons_of_mem _ q)))
          (fun x hx => by
            rcases List.mem_append.mp hx with hx | hx
            · exact k1 x hx
            · rcases List.mem_append.mp hx with hx | hx
              · exact i32_tr (s3 x hx) hlt
              · rw [List.mem_singleton.mp hx]; exact hlt) k2 s2 (fun x hx => hk x (List.mem_append_right _ (List.mem_cons_of_mem _ hx)))
        rw [em]
        exact ⟨lb2, la2, g1, by rw [g2]; simp, g3, g4, g5, fun r hr => (g6 r hr).trans (u1_ne hr)⟩
      · have em : mTr_desc b (n + 1) d a s = mTr_desc b n (d + 1) (s.1 6 a) (u1 s 8 d a) := by
          rw [mTr_desc, if_neg a0, if_neg ab]
          try dsimp only
          rw [show (u1 s 8 d a).2 = s.2 from rfl, if_neg c, u1_off (by decide)]
        have hgt := i32_lt_nle c
        obtain ⟨lb2, la2, g1, g2, g3, g4, g5, g6⟩ := ih (s := u1 s 8 d a) (zAt_8 q1) (Zp_L qz a0 q2 b1 b2 c) (by omega) (fun q => hb (List.mem_append_left _ q)) k1
          (fun x hx => by
            rcases List.mem_cons.mp hx with hx | hx
            · rw [hx]; exact hgt
            · rcases List.mem_append.mp hx with hx | hx
              · exact i32_tr hgt (s4 x hx)
              · exact k2 x hx) s1 (fun x hx => hk x (List.mem_append_left _ hx))
        rw [em]
        exact ⟨lb2, la2, g1, by rw [g2]; simp, g3, g4, g5, fun r hr => (g6 r hr).trans (u1_ne hr)⟩
/-- the slot is in the tree -/
theorem desc_at {b : zS} : ∀ {n d h : Nat} {lb la l : List zS} {a : zS} {s : zT}, zAt s h a l → Zp s (s.2 0 b) d h lb la → h ≤ n → b ∈ l → Srt s l →
    ∃ hb lb2 la2 lm, zAt (mTr_desc b n d a s).2 hb b lm ∧ Zp (mTr_desc b n d a s).2 (s.2 0 b) (mTr_desc b n d a s).1 hb lb2 la2 ∧ lb2 ++ (lm ++ la2) = lb ++ (l ++ la) ∧ (mTr_desc b n d a s).2.2 = s.2 ∧ (∀ r, r ≠ 8 → (mTr_desc b n d a s).2.1 r = s.1 r) ∧ (mTr_desc b n d a s).1 + hb ≤ d + h := by
  intro n
  induction n with
  | zero =>
    intro d h lb la l a s q qz hn hb _
    have h0 : h = 0 := by omega
    have : l = [] := (zAt_0 q).2.mp ((zAt_0 q).1.mpr h0)
    rw [this] at hb
    cases hb
  | succ n ih =>
    intro d h lb la l a s q qz hn hb hs
    rcases zAt_cases (id q) with ⟨h1, h2, h3⟩ | ⟨a0, hl, hr, l1, l2, q1, q2, e, b1, b2, q6, rfl⟩
    · rw [h3] at hb; cases hb
    · by_cases ab : a = b
      · subst ab
        rw [mTr_desc, if_neg a0, if_pos rfl]
        exact ⟨h, lb, la, _, q, qz, rfl, rfl, fun _ _ => rfl, Nat.le_refl _⟩
      · obtain ⟨s1, s2, s3, s4⟩ := Srt_node hs
        subst e
        by_cases c : s.2 0 a ≤ s.2 0 b
        · have mb : b ∈ l2 := by
            rcases List.mem_append.mp hb with hx | hx
            · have := s3 b hx
              rw [Int32.lt_iff_toInt_lt] at this
              rw [Int32.le_iff_toInt_le] at c
              omega
            · rcases List.mem_cons.mp hx with hx | hx
              · exact absurd hx.symm ab
              · exact hx
          have em : mTr_desc b (n + 1) d a s = mTr_desc b n (d + 1) (s.1 7 a) (u1 s 8 d a) := by
            rw [mTr_desc, if_neg a0, if_neg ab]
            try dsimp only
            rw [show (u1 s 8 d a).2 = s.2 from rfl, if_pos c, u1_off (by decide)]
          obtain ⟨hb', lb2, la2, lm, g0, g1, g2, g5, g6, g7⟩ := ih (s := u1 s 8 d a) (zAt_8 q2) (Zp_R qz a0 q1 b1 b2 c) (by omega) mb s2
          rw [em]
          exact ⟨hb', lb2, la2, lm, g0, g1, by rw [g2]; simp, g5, fun r hr => (g6 r hr).trans (u1_ne hr), by omega⟩
        · have mb : b ∈ l1 := by
            rcases List.mem_append.mp hb with hx | hx
            · exact hx
            · rcases List.mem_cons.mp hx with hx | hx
              · exact absurd hx.symm ab
              · have := s4 b hx
                rw [Int32.lt_iff_toInt_lt] at this
                rw [Int32.le_iff_toInt_le] at c
                omega
          have em : mTr_desc b (n + 1) d a s = mTr_desc b n (d + 1) (s.1 6 a) (u1 s 8 d a) := by
            rw [mTr_desc, if_neg a0, if_neg ab]
            try dsimp only
            rw [show (u1 s 8 d a).2 = s.2 from rfl, if_neg c, u1_off (by decide)]
          obtain ⟨hb', lb2, la2, lm, g0, g1, g2, g5, g6, g7⟩ := ih (s := u1 s 8 d a) (zAt_8 q1) (Zp_L qz a0 q2 b1 b2 c) (by omega) mb s1
          rw [em]
          exact ⟨hb', lb2, la2, lm, g0, g1, by rw [g2]; simp, g5, fun r hr => (g6 r hr).trans (u1_ne hr), by omega⟩
theorem Srt_nd {s : zT} {l : List zS} (h : Srt s l) : l.Nodup := List.Pairwise.imp (fun {x y} q e => by rw [e] at q; exact i32_lt_irrefl _ q) h
theorem so_of {s s' : zT} (h2 : s'.2 = s.2) (h1 : ∀ r, r ≠ 8 → s'.1 r = s.1 r) : so s s' [] := fun x _ => ⟨by rw [h1 6 (by decide)], by rw [h1 7 (by decide)], by rw [h2]⟩
/-- A SLOT COMES INTO A TREE -/
theorem with_spec {s : zT} {root a : zS} {h : Nat} {l : List zS} (z : s.2 1 0 = 0) (q : zAt s h root l) (hs : Srt s l) (a0 : a ≠ 0) (ha : a ∉ l) (hk : ∀ x ∈ l, ¬ s.2 0 x = s.2 0 a) (hlen : l.length ≤ 2000) :
    ∃ h' l', zAt (mTr_with s root a).2 h' (mTr_with s root a).1 l' ∧ Srt s l' ∧ l'.Perm (a :: l) ∧ so s (mTr_with s root a).2 l' := by
  unfold mTr_with
  try dsimp only
  generalize hs0 : u2 (u1 (u1 s 6 a.val 0) 7 a.val 0) 1 a.val 1 = s0
  have so0 : so s s0 [a] := fun x hx => by
    have xa : x ≠ a := fun q => hx (by rw [q]; exact List.mem_cons_self)
    rw [← hs0]
    exact ⟨by rw [u2_1, u1_off (by decide), u1_at, if_neg (fne xa)], by rw [u2_1, u1_at, if_neg (fne xa), u1_off (by decide)], by rw [u2_at, if_neg (fne xa)]; rfl⟩
  have e0 : s0.2 0 = s.2 0 := by rw [← hs0, u2_ne (by decide)]; rfl
  have e6 : s0.1 6 a = 0 := by rw [← hs0, u2_1, u1_off (by decide), u1_at, if_pos rfl]
  have e7 : s0.1 7 a = 0 := by rw [← hs0, u2_1, u1_at, if_pos rfl]
  have eh : s0.2 1 a = 1 := by rw [← hs0, u2_at, if_pos rfl]
  have z0 : s0.2 1 0 = 0 := (so0 0 (fun q => a0 (List.mem_singleton.mp q).symm)).2.2.trans z
  have q0 : zAt s0 h root l := zAt_so so0 (fun x hx q => ha (List.mem_singleton.mp q ▸ hx)) q
  have h21 := zAt_21 q (by omega)
  have hs' : Srt s0 l := by show l.Pairwise (fun x y : zS => s0.2 0 x < s0.2 0 y); rw [e0]; exact hs
  obtain ⟨lb, la, g1, g2, g3, g4, g5, g6⟩ := desc_in (b := a) (n := 39) (d := 0) (lb := []) (la := []) q0 ⟨rfl, rfl⟩ (by omega) ha (fun _ q => by cases q) (fun _ q => by cases q) hs' (fun x hx => by rw [e0]; exact hk x hx)
  rw [List.nil_append, List.append_nil] at g2
  generalize hd : mTr_desc a 39 0 root s0 = q1 at *
  have so1 := so_of g5 g6
  have e6' : q1.2.1 6 a = 0 := by rw [g6 6 (by decide)]; exact e6
  have e7' : q1.2.1 7 a = 0 := by rw [g6 7 (by decide)]; exact e7
  have ta : zAt q1.2 1 a [a] := zAt_node (hl := 0) (hr := 0) (l1 := []) (l2 := []) (by rw [e6']; exact zAt_nil _) (by rw [e7']; exact zAt_nil _) a0 (by omega) (by omega) rfl (by rw [g5]; exact eh) rfl
  have nl : ∀ x ∈ l, x ≠ 0 := zAt_ne q
  rw [e0] at g3 g4
  have hsl : Srt s (lb ++ a :: la) := by
    have hs2 : Srt s (lb ++ la) := by rw [g2]; exact hs
    obtain ⟨p1, p2, p3⟩ := List.pairwise_append.mp hs2
    refine List.pairwise_append.mpr ⟨p1, List.pairwise_cons.mpr ⟨g4, p2⟩, fun x hx y hy => ?_⟩
    rcases List.mem_cons.mp hy with hy | hy
    · rw [hy]; exact g3 x hx
    · exact p3 x hx y hy
  have hll : (lb ++ a :: la).length = l.length + 1 := by rw [← g2]; simp; omega
  have mb : ∀ x ∈ lb, x ≠ 0 := fun x hx => nl x (by rw [← g2]; exact List.mem_append_left _ hx)
  have ma : ∀ x ∈ la, x ≠ 0 := fun x hx => nl x (by rw [← g2]; exact List.mem_append_right _ hx)
  have ek : q1.2.2 0 a.val = s0.2 0 a := by rw [g5]
  rw [ek]
  obtain ⟨h', k1, k2⟩ := climb_spec (key := s0.2 0 a) (lt := [a]) (by rw [g5]; exact z0) g1 ta (by omega) (by omega) (by show (lb ++ a :: la).Nodup; exact Srt_nd hsl) (by show (lb ++ a :: la).length ≤ 2001; omega) mb ma
  refine ⟨h', lb ++ a :: la, k1, hsl, ?_, ?_⟩
  · rw [← g2]
    exact List.perm_middle
  · refine ((so0.wk ?_).tr (so1.wk (fun _ q => by cases q))).tr k2
    intro x hx
    rw [List.mem_singleton.mp hx]
    exact List.mem_append_right _ List.mem_cons_self
