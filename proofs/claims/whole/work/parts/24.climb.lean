/-! THE PATH: Zp s key n h lb la: the first n slots of the path lead down, by the key, to where a tree h high hangs; lb lies left of it, la right of it -/
def Zp (s : zT) (key : Int32) : Nat → Nat → List zS → List zS → Prop
  | 0, _, lb, la => lb = [] ∧ la = []
  | n + 1, h, lb, la => s.1 8 n ≠ 0 ∧ ∃ (ho : Nat) (lo lb' la' : List zS), ho ≤ h + 1 ∧ h ≤ ho + 1 ∧ Zp s key n (max h ho + 1) lb' la' ∧
    ((s.2 0 (s.1 8 n) ≤ key ∧ zAt s ho (s.1 6 (s.1 8 n)) lo ∧ lb = lb' ++ (lo ++ [s.1 8 n]) ∧ la = la') ∨ (¬ s.2 0 (s.1 8 n) ≤ key ∧ zAt s ho (s.1 7 (s.1 8 n)) lo ∧ lb = lb' ∧ la = s.1 8 n :: (lo ++ la')))
theorem Zp_congr {s s' : zT} {key : Int32} {l' : List zS} (hk : s'.2 0 = s.2 0) (k : so s s' l') : ∀ {n h : Nat} {lb la : List zS}, (∀ i, i < n → s'.1 8 i = s.1 8 i) → (∀ x ∈ lb, x ∉ l') → (∀ x ∈ la, x ∉ l') → Zp s key n h lb la → Zp s' key n h lb la := by
  intro n
  induction n with
  | zero => intro h lb la _ _ _ q; exact q
  | succ n ih =>
    intro h lb la h8 hb ha q
    obtain ⟨u0, ho, lo, lb', la', b1, b2, qz, qq⟩ := q
    have e8 := h8 n (Nat.lt_succ_self n)
    rcases qq with ⟨c, qt, rfl, rfl⟩ | ⟨c, qt, rfl, rfl⟩
    · have mu : s.1 8 n ∈ lb' ++ (lo ++ [s.1 8 n]) := List.mem_append_right _ (List.mem_append_right _ List.mem_cons_self)
      obtain ⟨g6, g7, gh⟩ := k _ (hb _ mu)
      refine ⟨by rw [e8]; exact u0, ho, lo, lb', la, b1, b2, ih (fun i hi => h8 i (Nat.lt_succ_of_lt hi)) (fun x hx => hb x (List.mem_append_left _ hx)) ha qz, Or.inl ⟨by rw [e8, hk]; exact c, ?_, by rw [e8], rfl⟩⟩
      rw [e8, g6]
      exact zAt_so k (fun x hx => hb x (List.mem_append_right _ (List.mem_append_left _ hx))) qt
    · have mu : s.1 8 n ∈ s.1 8 n :: (lo ++ la') := List.mem_cons_self
      obtain ⟨g6, g7, gh⟩ := k _ (ha _ mu)
      refine ⟨by rw [e8]; exact u0, ho, lo, lb, la', b1, b2, ih (fun i hi => h8 i (Nat.lt_succ_of_lt hi)) hb (fun x hx => ha x (List.mem_cons_of_mem _ (List.mem_append_right _ hx))) qz, Or.inr ⟨by rw [e8, hk]; exact c, ?_, rfl, by rw [e8]⟩⟩
      rw [e8, g7]
      exact zAt_so k (fun x hx => ha x (List.mem_cons_of_mem _ (List.mem_append_left _ hx))) qt
theorem tk_8eq {s : zT} {t : zS} : (mTr_bal s t).2.1 8 = s.1 8 := by
  have l1 : (mTr_liftL s t).2.1 8 = s.1 8 := by
    unfold mTr_liftL
    try dsimp only
    split <;> rfl
  have l2 : (mTr_liftR s t).2.1 8 = s.1 8 := by
    unfold mTr_liftR
    try dsimp only
    split <;> rfl
  unfold mTr_bal
  try dsimp only
  split
  · split
    · exact l2
    · exact l1
  · split
    · split
      · exact l2
      · exact l1
    · rfl
theorem climb_spec {key : Int32} : ∀ {n h h2 : Nat} {lb la lt : List zS} {t : zS} {s : zT}, s.2 1 0 = 0 → Zp s key n h lb la → zAt s h2 t lt → h2 ≤ h + 1 → h ≤ h2 + 1 → (lb ++ (lt ++ la)).Nodup → (lb ++ (lt ++ la)).length ≤ 2001 → (∀ x ∈ lb, x ≠ 0) → (∀ x ∈ la, x ≠ 0) →
    ∃ h', zAt (mTr_climb key n t s).2 h' (mTr_climb key n t s).1 (lb ++ (lt ++ la)) ∧ so s (mTr_climb key n t s).2 (lb ++ (lt ++ la)) := by
  intro n
  induction n with
  | zero =>
    intro h h2 lb la lt t s _ qz qt _ _ _ _ _ _
    obtain ⟨rfl, rfl⟩ := qz
    exact ⟨h2, by rw [List.nil_append, List.append_nil]; exact qt, so_rf _ _⟩
  | succ n ih =>
    intro h h2 lb la lt t s z qz qt b1 b2 nd hlen nb na
    obtain ⟨u0, ho, lo, lb', la', c1, c2, qz, qq⟩ := qz
    have hlt : h2 ≤ 21 := zAt_21 qt (by simp at hlen; omega)
    have nt : ∀ x ∈ lt, x ≠ 0 := zAt_ne qt
    rcases qq with ⟨c, qo, rfl, rfl⟩ | ⟨c, qo, rfl, rfl⟩
    · generalize hup : s.1 8 n = up at *
      have el : (lb' ++ (lo ++ [up])) ++ (lt ++ la) = lb' ++ ((lo ++ up :: lt) ++ la) := by simp
      rw [el] at nd hlen ⊢
      obtain ⟨n1, n2, nX⟩ := List.nodup_append.mp nd
      obtain ⟨n3, n4, nY⟩ := List.nodup_append.mp n2
      obtain ⟨n5, n6, nZ⟩ := List.nodup_append.mp n3
      have uo : ∀ x ∈ lo, x ≠ up := fun x hx => nZ x hx up List.mem_cons_self
      have ut : ∀ x ∈ lt, x ≠ up := fun x hx q => (List.nodup_cons.mp n6).1 (q ▸ hx)
      have hlo : ho ≤ 21 := zAt_21 qo (by simp at hlen; omega)
      have cg : ∀ {h : Nat} {v : zS} {k : List zS}, (∀ x ∈ k, x ≠ up) → zAt s h v k → zAt (u1 s 7 up t) h v k := fun hk q => zAt_congr (fun x hx => ⟨u1_off (by decide), by rw [u1_at, if_neg (fne (hk x hx))], rfl⟩) q
      have so1 : so s (u1 s 7 up t) (lo ++ up :: lt) := fun x hx => ⟨u1_off (by decide), by rw [u1_at, if_neg (fne (fun q => hx (by rw [q]; exact List.mem_append_right _ List.mem_cons_self)))], rfl⟩
      obtain ⟨h', g1, g2, g3⟩ := bal_spec (s := u1 s 7 up t) (t := up) (hl := ho) (hr := h2) (l1 := lo) (l2 := lt) z u0 (by rw [u1_off (by decide)]; exact cg uo qo) (by rw [u1_at, if_pos rfl]; exact cg ut qt) n3 (by omega) (by omega) (by omega) (by omega)
      have so2 := so1.tr g3
      have etk := (tk_7 s up.val t).tr (tk_bal (u1 s 7 up t) up)
      have e8 : ∀ i, i < n → (mTr_bal (u1 s 7 up t) up).2.1 8 i = s.1 8 i := fun i _ => by rw [tk_8eq]; rfl
      have z' : (mTr_bal (u1 s 7 up t) up).2.2 1 0 = 0 := by
        have := (so2 0 (fun q => by
          rcases List.mem_append.mp q with q | q
          · exact zAt_ne qo 0 q rfl
          · rcases List.mem_cons.mp q with q | q
            · exact u0 q.symm
            · exact nt 0 q rfl)).2.2
        exact this.trans z
      have qz' := Zp_congr (etk.1 0 (by decide)) so2 e8 (fun x hx q => nX x hx x (List.mem_append_left _ q) rfl) (fun x hx q => nY x q x hx rfl) qz
      obtain ⟨h'', k1, k2⟩ := ih z' qz' g1 (by omega) (by omega) nd hlen (fun x hx => nb x (List.mem_append_left _ hx)) na
      have em : mTr_climb key (n + 1) t s = mTr_climb key n (mTr_bal (u1 s 7 up t) up).1 (mTr_bal (u1 s 7 up t) up).2 := by
        rw [mTr_climb]
        try dsimp only
        rw [hup, if_pos c]
      rw [em]
      exact ⟨h'', k1, (so2.wk (fun x hx => List.mem_append_right _ (List.mem_append_left _ hx))).tr k2⟩
    · generalize hup : s.1 8 n = up at *
      have el : lb ++ (lt ++ up :: (lo ++ la')) = lb ++ ((lt ++ up :: lo) ++ la') := by simp
      rw [el] at nd hlen ⊢
      obtain ⟨n1, n2, nX⟩ := List.nodup_append.mp nd
      obtain ⟨n3, n4, nY⟩ := List.nodup_append.mp n2
      obtain ⟨n5, n6, nZ⟩ := List.nodup_append.mp n3
      have ut : ∀ x ∈ lt, x ≠ up := fun x hx => nZ x hx up List.mem_cons_self
      have uo : ∀ x ∈ lo, x ≠ up := fun x hx q => (List.nodup_cons.mp n6).1 (q ▸ hx)
      have hlo : ho ≤ 21 := zAt_21 qo (by simp at hlen; omega)
      have cg : ∀ {h : Nat} {v : zS} {k : List zS}, (∀ x ∈ k, x ≠ up) → zAt s h v k → zAt (u1 s 6 up t) h v k := fun hk q => zAt_congr (fun x hx => ⟨by rw [u1_at, if_neg (fne (hk x hx))], u1_off (by decide), rfl⟩) q
      have so1 : so s (u1 s 6 up t) (lt ++ up :: lo) := fun x hx => ⟨by rw [u1_at, if_neg (fne (fun q => hx (by rw [q]; exact List.mem_append_right _ List.mem_cons_self)))], u1_off (by decide), rfl⟩
      obtain ⟨h', g1, g2, g3⟩ := bal_spec (s := u1 s 6 up t) (t := up) (hl := h2) (hr := ho) (l1 := lt) (l2 := lo) z u0 (by rw [u1_at, if_pos rfl]; exact cg ut qt) (by rw [u1_off (by decide)]; exact cg uo qo) n3 (by omega) (by omega) (by omega) (by omega)
      have so2 := so1.tr g3
      have etk := (tk_6 s up.val t).tr (tk_bal (u1 s 6 up t) up)
      have e8 : ∀ i, i < n → (mTr_bal (u1 s 6 up t) up).2.1 8 i = s.1 8 i := fun i _ => by rw [tk_8eq]; rfl
      have z' : (mTr_bal (u1 s 6 up t) up).2.2 1 0 = 0 := by
        have := (so2 0 (fun q => by
          rcases List.mem_append.mp q with q | q
          · exact nt 0 q rfl
          · rcases List.mem_cons.mp q with q | q
            · exact u0 q.symm
            · exact zAt_ne qo 0 q rfl)).2.2
        exact this.trans z
      have qz' := Zp_congr (etk.1 0 (by decide)) so2 e8 (fun x hx q => nX x hx x (List.mem_append_left _ q) rfl) (fun x hx q => nY x q x hx rfl) qz
      obtain ⟨h'', k1, k2⟩ := ih z' qz' g1 (by omega) (by omega) nd hlen nb (fun x hx => na x (List.mem_cons_of_mem _ (List.mem_append_right _ hx)))
      have em : mTr_climb key (n + 1) t s = mTr_climb key n (mTr_bal (u1 s 6 up t) up).1 (mTr_bal (u1 s 6 up t) up).2 := by
        rw [mTr_climb]
        try dsimp only
        rw [hup, if_neg c]
      rw [em]
      exact ⟨h'', k1, (so2.wk (fun x hx => List.mem_append_right _ (List.mem_append_left _ hx))).tr k2⟩
