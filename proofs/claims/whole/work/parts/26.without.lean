/-! A SLOT GOES OUT OF A TREE -/
/-- the path from d on, k slots, goes left only -/
def Ex (s : zT) : Nat → Nat → Nat → Nat → List zS → Prop
  | 0, _, h, h', le => h = h' ∧ le = []
  | k + 1, d, h, h', le => s.1 8 d ≠ 0 ∧ ∃ (hl hr : Nat) (lr le' : List zS), h = max hl hr + 1 ∧ hl ≤ hr + 1 ∧ hr ≤ hl + 1 ∧ zAt s hr (s.1 7 (s.1 8 d)) lr ∧ Ex s k (d + 1) hl h' le' ∧ le = le' ++ s.1 8 d :: lr
theorem Zp_Ex {s : zT} {key : Int32} : ∀ {k d h h' : Nat} {lb la le : List zS}, Zp s key d h lb la → Ex s k d h h' le → (∀ x ∈ le, ¬ s.2 0 x ≤ key) → Zp s key (d + k) h' lb (le ++ la) := by
  intro k
  induction k with
  | zero =>
    intro d h h' lb la le q qe _
    obtain ⟨rfl, rfl⟩ := qe
    exact q
  | succ k ih =>
    intro d h h' lb la le q qe hk
    obtain ⟨u0, hl, hr, lr, le', e, b1, b2, qr, qe', rfl⟩ := qe
    subst e
    have q' : Zp s key (d + 1) hl lb (s.1 8 d :: (lr ++ la)) := ⟨u0, hr, lr, lb, la, b2, b1, q, Or.inr ⟨hk _ (List.mem_append_right _ List.mem_cons_self), qr, rfl, rfl⟩⟩
    have g := ih q' qe' (fun x hx => hk x (List.mem_append_left _ hx))
    rw [show d + (k + 1) = d + 1 + k by omega, List.append_assoc]
    exact g
theorem Ex_congr {s s' : zT} {l' : List zS} (h7 : ∀ x : zS, s'.1 7 x = s.1 7 x) (k0 : so s s' l') : ∀ {k d h h' : Nat} {le : List zS}, (∀ i, d ≤ i → s'.1 8 i = s.1 8 i) → (∀ x ∈ le, x ∉ l') → Ex s k d h h' le → Ex s' k d h h' le := by
  intro k
  induction k with
  | zero => intro d h h' le _ _ q; exact q
  | succ k ih =>
    intro d h h' le h8 hd q
    obtain ⟨u0, hl, hr, lr, le', e, b1, b2, qr, qe', rfl⟩ := q
    have e8 := h8 d (Nat.le_refl d)
    refine ⟨by rw [e8]; exact u0, hl, hr, lr, le', e, b1, b2, ?_, ih (fun i hi => h8 i (by omega)) (fun x hx => hd x (List.mem_append_left _ hx)) qe', by rw [e8]⟩
    rw [e8, h7]
    exact zAt_so k0 (fun x hx => hd x (List.mem_append_right _ (List.mem_cons_of_mem _ hx))) qr
theorem Zp_key {s : zT} {key key' : Int32} : ∀ {n h : Nat} {lb la : List zS}, (∀ x ∈ lb, s.2 0 x ≤ key') → (∀ x ∈ la, ¬ s.2 0 x ≤ key') → Zp s key n h lb la → Zp s key' n h lb la := by
  intro n
  induction n with
  | zero => intro h lb la _ _ q; exact q
  | succ n ih =>
    intro h lb la hb ha q
    obtain ⟨u0, ho, lo, lb', la', b1, b2, qz, qq⟩ := q
    rcases qq with ⟨c, qt, rfl, rfl⟩ | ⟨c, qt, rfl, rfl⟩
    · exact ⟨u0, ho, lo, lb', la, b1, b2, ih (fun x hx => hb x (List.mem_append_left _ hx)) ha qz, Or.inl ⟨hb _ (List.mem_append_right _ (List.mem_append_right _ List.mem_cons_self)), qt, rfl, rfl⟩⟩
    · exact ⟨u0, ho, lo, lb, la', b1, b2, ih hb (fun x hx => ha x (List.mem_cons_of_mem _ (List.mem_append_right _ hx))) qz, Or.inr ⟨ha _ List.mem_cons_self, qt, rfl, rfl⟩⟩
theorem heir_spec : ∀ {n d h : Nat} {r : zS} {l : List zS} {s : zT}, zAt s h r l → r ≠ 0 → h ≤ n →
    ∃ (k hr : Nat) (lr le : List zS), (mTr_heir n d r s).1 = d + k ∧ (mTr_heir n d r s).2.1 ≠ 0 ∧ Ex (mTr_heir n d r s).2.2 k d h (hr + 1) le ∧ zAt (mTr_heir n d r s).2.2 hr ((mTr_heir n d r s).2.2.1 7 (mTr_heir n d r s).2.1) lr ∧ l = (mTr_heir n d r s).2.1 :: (lr ++ le) ∧
      (mTr_heir n d r s).2.2.2 = s.2 ∧ (∀ q, q ≠ 8 → (mTr_heir n d r s).2.2.1 q = s.1 q) ∧ ∀ i, i < d → (mTr_heir n d r s).2.2.1 8 i = s.1 8 i := by
  intro n
  induction n with
  | zero =>
    intro d h r l s q r0 hn
    exact absurd ((zAt_0 q).1.mpr (by omega)) r0
  | succ n ih =>
    intro d h r l s q r0 hn
    rcases zAt_cases q with ⟨h1, h2, h3⟩ | ⟨-, hl, hr, l1, l2, q1, q2, e, b1, b2, q6, rfl⟩
    · exact absurd h2 r0
    · by_cases hz : s.1 6 r = 0
      · have em : mTr_heir (n + 1) d r s = (d, r, s) := by rw [mTr_heir, if_pos hz]
        rw [em]
        have z1 : l1 = [] := (zAt_0 q1).2.mp hz
        have z2 : hl = 0 := (zAt_0 q1).1.mp hz
        subst z1; subst z2
        exact ⟨0, hr, l2, [], rfl, r0, ⟨by omega, rfl⟩, q2, by simp, rfl, fun _ _ => rfl, fun _ _ => rfl⟩
      · have em : mTr_heir (n + 1) d r s = mTr_heir n (d + 1) (s.1 6 r) (u1 s 8 d r) := by
          rw [mTr_heir, if_neg hz]
          try dsimp only
          rw [u1_off (by decide)]
        obtain ⟨k, hr', lr, le, g1, g2, g3, g4, g5, g6, g7, g8⟩ := ih (d := d + 1) (s := u1 s 8 d r) (zAt_8 q1) hz (by omega)
        rw [em]
        have e8 : (mTr_heir n (d + 1) (s.1 6 r) (u1 s 8 d r)).2.2.1 8 d = r := by rw [g8 d (by omega), u1_at, if_pos rfl]
        have so1 : so (u1 s 8 d r) (mTr_heir n (d + 1) (s.1 6 r) (u1 s 8 d r)).2.2 [] := so_of g6 g7
        refine ⟨k + 1, hr', lr, le ++ r :: l2, by omega, g2, ⟨by rw [e8]; exact r0, hl, hr, l2, le, e, b1, b2, ?_, g3, by rw [e8]⟩, g4, ?_, g6, fun q hq => (g7 q hq).trans (u1_ne hq), fun i hi => by rw [g8 i (by omega), u1_at, if_neg (by omega)]⟩
        · rw [e8, g7 7 (by decide), u1_off (by decide)]
          exact zAt_so so1 (fun _ _ q => by cases q) (zAt_8 q2)
        · rw [g5]
          simp
/-- the heir takes the slot's place -/
theorem wo_spec {s : zT} {a : zS} {n hl hr : Nat} {l1 l2 lb la : List zS} (z : s.2 1 0 = 0) (q1 : zAt s hl (s.1 6 a) l1) (q2 : zAt s hr (s.1 7 a) l2) (b1 : hl ≤ hr + 1) (b2 : hr ≤ hl + 1) (hz : s.1 7 a ≠ 0) (qz : Zp s (s.2 0 a) n (max hl hr + 1) lb la) (hs : Srt s (lb ++ ((l1 ++ a :: l2) ++ la))) (hlen : (lb ++ ((l1 ++ a :: l2) ++ la)).length ≤ 2001) (hf : hr ≤ 39 - n)
    (nb : ∀ x ∈ lb, x ≠ 0) (na : ∀ x ∈ la, x ≠ 0) : ∃ h', zAt (mTr_wo1 a n (39 - n) (n + 1) (s.1 7 a) s).2 h' (mTr_wo1 a n (39 - n) (n + 1) (s.1 7 a) s).1 (lb ++ ((l1 ++ l2) ++ la)) ∧ so s (mTr_wo1 a n (39 - n) (n + 1) (s.1 7 a) s).2 (lb ++ ((l1 ++ l2) ++ la)) := by
  obtain ⟨k, h2, lr, le, g1, g2, g3, g4, g5, g6, g7, g8⟩ := heir_spec (d := n + 1) (s := s) q2 hz hf
  unfold mTr_wo1 mTr_wo2
  try dsimp only
  generalize hw : mTr_heir (39 - n) (n + 1) (s.1 7 a.val) s = w at *
  obtain ⟨wd, wh, ws⟩ := w
  dsimp only at g1 g2 g3 g4 g5 g6 g7 g8 ⊢
  subst g5; subst g1
  have nd := Srt_nd hs
  obtain ⟨nd1, nd2, ndX⟩ := List.nodup_append.mp nd
  obtain ⟨nd3, nd4, ndY⟩ := List.nodup_append.mp nd2
  obtain ⟨nd5, nd6, ndZ⟩ := List.nodup_append.mp nd3
  obtain ⟨ndA, nd7⟩ := List.nodup_cons.mp nd6
  obtain ⟨ndH, nd8⟩ := List.nodup_cons.mp nd7
  obtain ⟨nd9, nd10, ndE⟩ := List.nodup_append.mp nd8
  -- the state behind the two writes
  have eaw : a ≠ wh := fun q => ndA (q ▸ List.mem_cons_self)
  have e6a : (u1 ws 8 n wh).1 6 a.val = s.1 6 a := by rw [u1_off (by decide), g7 6 (by decide)]
  rw [e6a]
  generalize hs2 : u1 (u1 ws 8 n wh) 6 wh.val (s.1 6 a) = s2
  have r2 : s2.2 = s.2 := by rw [← hs2]; exact g6
  have r6 : ∀ x : zS, s2.1 6 x = if x.val = wh.val then s.1 6 a else s.1 6 x := fun x => by rw [← hs2, u1_at, u1_off (by decide), g7 6 (by decide)]
  have r7 : ∀ x : Nat, s2.1 7 x = s.1 7 x := fun x => by rw [← hs2, u1_off (by decide), u1_off (by decide), g7 7 (by decide)]
  have r8n : s2.1 8 n = wh := by rw [← hs2, u1_off (by decide), u1_at, if_pos rfl]
  have r8 : ∀ i, i ≠ n → s2.1 8 i = ws.1 8 i := fun i hi => by rw [← hs2, u1_off (by decide), u1_at, if_neg hi]
  have sos : so s s2 [wh] := fun x hx => ⟨by rw [r6, if_neg (fne (fun q => hx (by rw [q]; exact List.mem_cons_self)))], r7 x, by rw [r2]⟩
  have sow : so ws s2 [wh] := fun x hx => ⟨by rw [(sos x hx).1, g7 6 (by decide)], by rw [r7, g7 7 (by decide)], by rw [r2, g6]⟩
  -- keys
  have skeys : ∀ x ∈ lb, s.2 0 x < s.2 0 wh := fun x hx => (List.pairwise_append.mp hs).2.2 x hx wh (List.mem_append_left _ (List.mem_append_right _ (List.mem_cons_of_mem _ List.mem_cons_self)))
  have hs4 := (List.pairwise_append.mp hs).2.1
  have skeya : ∀ x ∈ la, s.2 0 wh < s.2 0 x := fun x hx => (List.pairwise_append.mp hs4).2.2 wh (List.mem_append_right _ (List.mem_cons_of_mem _ List.mem_cons_self)) x hx
  have hs5 := (List.pairwise_append.mp (List.pairwise_append.mp hs4).1).2.1
  have hs6 := List.pairwise_cons.mp (List.pairwise_cons.mp hs5).2
  have skeye : ∀ x ∈ le, s.2 0 wh < s.2 0 x := fun x hx => hs6.1 x (List.mem_append_right _ hx)
  have nle : ∀ {x y : Int32}, y < x → ¬ x ≤ y := fun {x y} h q => by
    rw [Int32.lt_iff_toInt_lt] at h
    rw [Int32.le_iff_toInt_le] at q
    omega
  have le_ : ∀ {x y : Int32}, x < y → x ≤ y := fun {x y} h => by
    rw [Int32.lt_iff_toInt_lt] at h
    rw [Int32.le_iff_toInt_le]
    omega
  -- the path
  have p0 : Zp s (s.2 0 wh) n (max hl hr + 1) lb la := Zp_key (fun x hx => le_ (skeys x hx)) (fun x hx => nle (skeya x hx)) qz
  have mwl : wh ∈ l1 ++ a :: wh :: (lr ++ le) := List.mem_append_right _ (List.mem_cons_of_mem _ List.mem_cons_self)
  have p1 : Zp s2 (s.2 0 wh) n (max hl hr + 1) lb la := Zp_congr (by rw [r2]) sos (fun i hi => by rw [r8 i (by omega), g8 i (by omega)]) (fun x hx q => ndX x hx wh (List.mem_append_left _ mwl) (List.mem_singleton.mp q)) (fun x hx q => ndY wh mwl x hx (List.mem_singleton.mp q).symm) p0
  have t1 : zAt s2 hl (s2.1 6 (s2.1 8 n)) l1 := by
    rw [r8n, r6, if_pos rfl]
    exact zAt_so sos (fun x hx q => ndZ x hx wh (List.mem_cons_of_mem _ List.mem_cons_self) (List.mem_singleton.mp q)) q1
  have p2 : Zp s2 (s.2 0 wh) (n + 1) hr (lb ++ (l1 ++ [wh])) la := by
    refine ⟨by rw [r8n]; exact g2, hl, l1, lb, la, b1, b2, by rw [Nat.max_comm]; exact p1, Or.inl ⟨?_, t1, by rw [r8n], rfl⟩⟩
    rw [r8n, r2]
    rw [Int32.le_iff_toInt_le]
    omega
  have hle : ∀ x ∈ le, x ∉ [wh] := fun x hx q => ndH (List.mem_singleton.mp q ▸ List.mem_append_right _ hx)
  have x2 : Ex s2 k (n + 1) hr (h2 + 1) le := Ex_congr (fun x => by rw [r7, g7 7 (by decide)]) sow (fun i hi => r8 i (by omega)) hle g3
  have p3 := Zp_Ex p2 x2 (fun x hx => by rw [r2]; exact nle (skeye x hx))
  have t2 : zAt s2 h2 (s2.1 7 wh) lr := by
    have : s2.1 7 wh = ws.1 7 wh := by rw [r7, g7 7 (by decide)]
    rw [this]
    exact zAt_so sow (fun x hx q => ndH (List.mem_singleton.mp q ▸ List.mem_append_left _ hx)) g4
  have el : (lb ++ (l1 ++ [wh])) ++ (lr ++ (le ++ la)) = lb ++ ((l1 ++ wh :: (lr ++ le)) ++ la) := by simp
  have hperm : (lb ++ ((l1 ++ a :: wh :: (lr ++ le)) ++ la)).Perm (a :: (lb ++ ((l1 ++ wh :: (lr ++ le)) ++ la))) := by
    have : lb ++ ((l1 ++ a :: wh :: (lr ++ le)) ++ la) = (lb ++ l1) ++ a :: (wh :: (lr ++ le) ++ la) := by simp
    rw [this]
    refine List.perm_middle.trans ?_
    have : lb ++ ((l1 ++ wh :: (lr ++ le)) ++ la) = (lb ++ l1) ++ (wh :: (lr ++ le) ++ la) := by simp
    rw [this]
  have ndf := (List.nodup_cons.mp (hperm.nodup_iff.mp nd)).2
  have lenf : (lb ++ ((l1 ++ wh :: (lr ++ le)) ++ la)).length ≤ 2001 := by
    have := hperm.length_eq
    simp only [List.length_cons] at this
    omega
  have nz1 := zAt_ne q1
  have nz2 : ∀ x ∈ wh :: (lr ++ le), x ≠ 0 := zAt_ne q2
  have z2 : s2.2 1 0 = 0 := by rw [r2]; exact z
  obtain ⟨h', k1, k2⟩ := climb_spec (key := s.2 0 wh) z2 p3 t2 (by omega) (by omega) (by rw [el]; exact ndf) (by rw [el]; exact lenf)
    (fun x hx => by
      rcases List.mem_append.mp hx with hx | hx
      · exact nb x hx
      · rcases List.mem_append.mp hx with hx | hx
        · exact nz1 x hx
        · rw [List.mem_singleton.mp hx]; exact g2)
    (fun x hx => by
      rcases List.mem_append.mp hx with hx | hx
      · exact nz2 x (List.mem_cons_of_mem _ (List.mem_append_right _ hx))
      · exact na x hx)
  rw [el] at k1 k2
  have ek : s2.2 0 wh.val = s.2 0 wh := by rw [r2]
  rw [ek]
  refine ⟨h', k1, (sos.wk (fun x hx => ?_)).tr k2⟩
  rw [List.mem_singleton.mp hx]
  exact List.mem_append_right _ (List.mem_append_left _ (List.mem_append_right _ List.mem_cons_self))
theorem without_spec {s : zT} {root a : zS} {h : Nat} {l : List zS} (z : s.2 1 0 = 0) (q : zAt s h root l) (hs : Srt s l) (ha : a ∈ l) (hlen : l.length ≤ 2001) :
    ∃ h' l', zAt (mTr_without s root a).2 h' (mTr_without s root a).1 l' ∧ Srt s l' ∧ l.Perm (a :: l') ∧ so s (mTr_without s root a).2 l' := by
  have h21 := zAt_21 q hlen
  obtain ⟨hb, lb, la, lm, g0, g1, g2, g5, g6, g7⟩ := desc_at (b := a) (n := 39) (d := 0) (lb := []) (la := []) q ⟨rfl, rfl⟩ (by omega) ha hs
  rw [List.nil_append, List.append_nil] at g2
  unfold mTr_without
  try dsimp only
  generalize hd : mTr_desc a 39 0 root s = q1 at *
  have so1 := so_of g5 g6
  have nl : ∀ x ∈ l, x ≠ 0 := zAt_ne q
  have nb : ∀ x ∈ lb, x ≠ 0 := fun x hx => nl x (by rw [← g2]; exact List.mem_append_left _ hx)
  have na : ∀ x ∈ la, x ≠ 0 := fun x hx => nl x (by rw [← g2]; exact List.mem_append_right _ (List.mem_append_right _ hx))
  have z1 : q1.2.2 1 0 = 0 := by rw [g5]; exact z
  have hs1 : Srt q1.2 l := by show l.Pairwise (fun x y : zS => q1.2.2 0 x < q1.2.2 0 y); rw [g5]; exact hs
  rcases zAt_cases g0 with ⟨x1, x2, x3⟩ | ⟨a0, hl, hr, l1, l2, t1, t2, e, b1, b2, -, rfl⟩
  · exact absurd x2 (nl a ha)
  · subst e
    have hsub : (lb ++ ((l1 ++ l2) ++ la)).Sublist l := by
      rw [← g2]
      exact List.Sublist.append (List.Sublist.refl _) (List.Sublist.append (List.Sublist.append (List.Sublist.refl _) (List.sublist_cons_self _ _)) (List.Sublist.refl _))
    have hperm : l.Perm (a :: (lb ++ ((l1 ++ l2) ++ la))) := by
      rw [← g2]
      have e1 : lb ++ ((l1 ++ a :: l2) ++ la) = (lb ++ l1) ++ a :: (l2 ++ la) := by simp
      have e2 : lb ++ ((l1 ++ l2) ++ la) = (lb ++ l1) ++ (l2 ++ la) := by simp
      rw [e1, e2]
      exact List.perm_middle
    by_cases hz : q1.2.1 7 a = 0
    · rw [if_pos hz]
      have y1 : l2 = [] := (zAt_0 t2).2.mp hz
      have y2 : hr = 0 := (zAt_0 t2).1.mp hz
      subst y1; subst y2
      rw [List.append_nil] at hsub hperm
      have ek : q1.2.2 0 a.val = s.2 0 a := by rw [g5]
      rw [ek]
      obtain ⟨h', k1, k2⟩ := climb_spec (key := s.2 0 a) z1 g1 t1 (by omega) (by omega) (hsub.nodup (Srt_nd hs)) (by have := hsub.length_le; omega) nb na
      exact ⟨h', _, k1, hs.sublist hsub, hperm, (so1.wk (fun _ q => by cases q)).tr k2⟩
    · rw [if_neg hz]
      have ek : s.2 0 a = q1.2.2 0 a := by rw [g5]
      rw [ek] at g1
      rw [← g2] at hs1 hlen
      obtain ⟨h', k1, k2⟩ := wo_spec z1 t1 t2 b1 b2 hz g1 hs1 hlen (by omega) nb na
      exact ⟨h', _, k1, hs.sublist hsub, hperm, (so1.wk (fun _ q => by cases q)).tr k2⟩
