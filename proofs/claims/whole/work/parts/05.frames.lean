/-! WHAT THE METHODS LEAVE ALONE -/
theorem u1_ne {s : zT} {r i q : Nat} {v : zS} (h : q ≠ r) : (u1 s r i v).1 q = s.1 q := by
  show (bif Nat.beq q r then zup (s.1 q) i v else s.1 q) = s.1 q
  cases hb : Nat.beq q r with
  | true => exact absurd (Nat.eq_of_beq_eq_true hb) h
  | false => rfl
theorem u1_eq {s : zT} {r i : Nat} {v : zS} : (u1 s r i v).1 r = zup (s.1 r) i v := by
  show (bif Nat.beq r r then zup (s.1 r) i v else s.1 r) = _
  rw [Nat.beq_refl]
  rfl
theorem u2_ne {s : zT} {r i q : Nat} {v : Int32} (h : q ≠ r) : (u2 s r i v).2 q = s.2 q := by
  show (bif Nat.beq q r then zup (s.2 q) i v else s.2 q) = s.2 q
  cases hb : Nat.beq q r with
  | true => exact absurd (Nat.eq_of_beq_eq_true hb) h
  | false => rfl
theorem u2_eq {s : zT} {r i : Nat} {v : Int32} : (u2 s r i v).2 r = zup (s.2 r) i v := by
  show (bif Nat.beq r r then zup (s.2 r) i v else s.2 r) = _
  rw [Nat.beq_refl]
  rfl
theorem zup_eq {α : Type} {f : Nat → α} {i : Nat} {v : α} : zup f i v i = v := if_pos rfl
theorem zup_ne {α : Type} {f : Nat → α} {i j : Nat} {v : α} (h : j ≠ i) : zup f i v j = f j := if_neg h
/-- only rows of the trees have changed -/
def tk (s s' : zT) : Prop := (∀ q, q ≠ 1 → s'.2 q = s.2 q) ∧ ∀ q, q ≠ 6 → q ≠ 7 → q ≠ 8 → s'.1 q = s.1 q
theorem tk_rf (s : zT) : tk s s := ⟨fun _ _ => rfl, fun _ _ _ _ => rfl⟩
theorem tk.tr {a b c : zT} (h : tk a b) (k : tk b c) : tk a c := ⟨fun q hq => (k.1 q hq).trans (h.1 q hq), fun q h6 h7 h8 => (k.2 q h6 h7 h8).trans (h.2 q h6 h7 h8)⟩
theorem tk_6 (s : zT) (i : Nat) (v : zS) : tk s (u1 s 6 i v) := ⟨fun _ _ => rfl, fun _ h _ _ => u1_ne h⟩
theorem tk_7 (s : zT) (i : Nat) (v : zS) : tk s (u1 s 7 i v) := ⟨fun _ _ => rfl, fun _ _ h _ => u1_ne h⟩
theorem tk_8 (s : zT) (i : Nat) (v : zS) : tk s (u1 s 8 i v) := ⟨fun _ _ => rfl, fun _ _ _ h => u1_ne h⟩
theorem tk_h (s : zT) (i : Nat) (v : Int32) : tk s (u2 s 1 i v) := ⟨fun _ h => u2_ne h, fun _ _ _ _ => rfl⟩
theorem tk_liftL (s : zT) (t : zS) : tk s (mTr_liftL s t).2 := by
  unfold mTr_liftL
  try dsimp only
  split
  · exact (tk_6 _ _ _).tr (tk_7 _ _ _)
  · exact (((tk_7 _ _ _).tr (tk_6 _ _ _)).tr (tk_6 _ _ _)).tr (tk_7 _ _ _)
theorem tk_liftR (s : zT) (t : zS) : tk s (mTr_liftR s t).2 := by
  unfold mTr_liftR
  try dsimp only
  split
  · exact (tk_7 _ _ _).tr (tk_6 _ _ _)
  · exact (((tk_6 _ _ _).tr (tk_7 _ _ _)).tr (tk_7 _ _ _)).tr (tk_6 _ _ _)
theorem tk_bal2 (q : zS × zT) : tk q.2 (mTr_bal2 q).2 := ((tk_h _ _ _).tr (tk_h _ _ _)).tr (tk_h _ _ _)
theorem tk_bal (s : zT) (t : zS) : tk s (mTr_bal s t).2 := by
  unfold mTr_bal
  try dsimp only
  split
  · split
    · exact (tk_liftR s t).tr (tk_bal2 _)
    · exact (tk_liftL s t).tr (tk_bal2 _)
  · split
    · split
      · exact (tk_liftR s t).tr (tk_bal2 _)
      · exact (tk_liftL s t).tr (tk_bal2 _)
    · exact tk_h _ _ _
theorem tk_climb (key : Int32) : ∀ (n : Nat) (t : zS) (s : zT), tk s (mTr_climb key n t s).2 := by
  intro n
  induction n with
  | zero => intro t s; exact tk_rf s
  | succ n ih =>
    intro t s
    rw [mTr_climb]
    try dsimp only
    split
    · exact ((tk_7 _ _ _).tr (tk_bal _ _)).tr (ih _ _)
    · exact ((tk_6 _ _ _).tr (tk_bal _ _)).tr (ih _ _)
theorem tk_desc (b : zS) : ∀ (n d : Nat) (a : zS) (s : zT), tk s (mTr_desc b n d a s).2 := by
  intro n
  induction n with
  | zero => intro d a s; exact tk_rf s
  | succ n ih =>
    intro d a s
    rw [mTr_desc]
    try dsimp only
    split
    · exact tk_rf s
    · split
      · exact tk_rf s
      · split
        · exact (tk_8 _ _ _).tr (ih _ _ _)
        · exact (tk_8 _ _ _).tr (ih _ _ _)
theorem desc_le (b : zS) : ∀ (n d : Nat) (a : zS) (s : zT), (mTr_desc b n d a s).1 ≤ d + n := by
  intro n
  induction n with
  | zero => intro d a s; exact Nat.le_refl _
  | succ n ih =>
    intro d a s
    rw [mTr_desc]
    try dsimp only
    split
    · exact Nat.le_add_right _ _
    · split
      · exact Nat.le_add_right _ _
      · split
        · exact Nat.le_trans (ih _ _ _) (by omega)
        · exact Nat.le_trans (ih _ _ _) (by omega)
theorem tk_with (s : zT) (root a : zS) : tk s (mTr_with s root a).2 := by
  unfold mTr_with
  try dsimp only
  exact ((((tk_6 _ _ _).tr (tk_7 _ _ _)).tr (tk_h _ _ _)).tr (tk_desc _ _ _ _ _)).tr (tk_climb _ _ _ _)
theorem tk_heir : ∀ (n d : Nat) (h : zS) (s : zT), tk s (mTr_heir n d h s).2.2 := by
  intro n
  induction n with
  | zero => intro d h s; exact tk_rf s
  | succ n ih =>
    intro d h s
    rw [mTr_heir]
    split
    · exact tk_rf s
    · exact (tk_8 _ _ _).tr (ih _ _ _)
theorem tk_without (s : zT) (root a : zS) : tk s (mTr_without s root a).2 := by
  unfold mTr_without
  try dsimp only
  split
  · exact (tk_desc _ _ _ _ _).tr (tk_climb _ _ _ _)
  · unfold mTr_wo1 mTr_wo2
    try dsimp only
    exact ((((tk_desc _ _ _ _ _).tr (tk_heir _ _ _ _)).tr (tk_8 _ _ _)).tr (tk_6 _ _ _)).tr (tk_climb _ _ _ _)
theorem Ln_append_2 (s : zT) (a : zS) : (mLn_append s a).2 = s.2 := by
  unfold mLn_append
  try dsimp only
  split <;> rfl
theorem Ln_unlink_2 (s : zT) (a : zS) : (mLn_unlink s a).2 = s.2 := by
  unfold mLn_unlink
  try dsimp only
  split <;> split <;> rfl
theorem Bi_append_2 (s : zT) (p : zP) (a : zS) : (mBi_append s p a).2 = s.2 := by
  unfold mBi_append
  try dsimp only
  split <;> rfl
theorem Bi_unlink_2 (s : zT) (p : zP) (a : zS) : (mBi_unlink s p a).2 = s.2 := by
  unfold mBi_unlink
  try dsimp only
  split <;> split <;> (try split) <;> rfl
theorem Bi_addL_2 (p : zP) : ∀ (n : Nat) (a : zS) (s : zT) (q : Nat), q ≠ 1 → (mBi_addL p n a s).2 q = s.2 q := by
  intro n
  induction n with
  | zero => intro a s q hq; rfl
  | succ n ih =>
    intro a s q hq
    rw [mBi_addL]
    try dsimp only
    rw [ih _ _ q hq]
    exact (tk_with s _ a).1 q hq
theorem Bi_add_2 (s : zT) (a : zS) (q : Nat) (hq : q ≠ 1) : (mBi_add s a).2 q = s.2 q := by
  unfold mBi_add
  try dsimp only
  split
  · split
    · rw [Bi_addL_2 _ _ _ _ q hq, Bi_append_2]
    · rw [Bi_append_2]
  · show (mTr_with _ _ _).2.2 q = _
    rw [(tk_with _ _ _).1 q hq, Bi_append_2]
theorem Bi_remove_2 (s : zT) (a : zS) (q : Nat) (hq : q ≠ 1) : (mBi_remove s a).2 q = s.2 q := by
  unfold mBi_remove
  try dsimp only
  split
  · rw [Bi_unlink_2]
  · split
    · show (mTr_without _ _ _).2.2 q = _
      rw [(tk_without _ _ _).1 q hq, Bi_unlink_2]
    · show (mTr_without _ _ _).2.2 q = _
      rw [(tk_without _ _ _).1 q hq, Bi_unlink_2]
theorem add_cnt (s : zT) (a : zS) : (mBi_add s a).2 4 2 = s.2 4 2 := by rw [Bi_add_2 s a 4 (by decide)]
theorem rok_of {s s' : zT} (h : s'.2 4 3 = s.2 4 3) (hr : rok s) : rok s' := by
  unfold rok
  rw [h]
  exact hr
theorem rok_add {s : zT} {a : zS} (hr : rok s) : rok (mBi_add s a) := rok_of (by rw [Bi_add_2 s a 4 (by decide)]) hr
theorem rok_join {s : zT} (hr : rok s) : rok (mLn_join s).2 := by
  refine rok_of (s := s) ?_ hr
  unfold mLn_join
  try dsimp only
  rw [u2_eq, zup_ne (by decide), Ln_append_2]
  rfl
theorem Ln_rankL_2 : ∀ (n i : Nat) (a : zS) (s : zT) (q : Nat), q ≠ 2 → (mLn_rankL n i a s).2 q = s.2 q := by
  intro n
  induction n with
  | zero => intro i a s q hq; rfl
  | succ n ih =>
    intro i a s q hq
    rw [mLn_rankL, ih _ _ _ q hq, u2_ne hq]
theorem Ln_rankL_1 : ∀ (n i : Nat) (a : zS) (s : zT), (mLn_rankL n i a s).1 = s.1 := by
  intro n
  induction n with
  | zero => intro i a s; rfl
  | succ n ih =>
    intro i a s
    rw [mLn_rankL, ih]
    rfl
theorem rok_rank {s : zT} (hr : rok s) : rok (mLn_rank s) := rok_of (by unfold mLn_rank; rw [Ln_rankL_2 _ _ _ _ 4 (by decide)]) hr
theorem rok_stretch {s : zT} {c : Int32} (hr : rok s) (h : mBi_tight s c = true) : rok (mBi_stretch s) := by
  obtain ⟨e, he, hs⟩ := hr
  have h3 : ¬ (4096 : Int32) ≤ s.2 4 3 := by
    unfold mBi_tight at h
    simp only [Bool.and_eq_true, Bool.not_eq_true', decide_eq_false_iff_not] at h
    exact h.2
  have h8 : e ≠ 8 := fun q => by
    subst q
    exact h3 (by rw [hs]; decide)
  refine ⟨e + 1, by omega, ?_⟩
  show s.2 4 3 * nI 2 = _
  rw [hs, pk_mul, Nat.pow_succ 2 (e + 4)]
theorem i32_tn (y : Int32) : y = nI y.toBitVec.toNat := by
  apply Int32.toBitVec_inj.mp
  show y.toBitVec = (Int32.ofNat y.toBitVec.toNat).toBitVec
  simp
theorem place_eq {s : zT} {key : Int32} (hr : rok s) : mBi_mix (mBi_code s key) &&& (s.2 4 3 - 1) = zp (mBi_place s key) := by
  obtain ⟨r, h1, h2, e⟩ := rok_nI hr
  have e1 : s.2 4 3 - 1 = nI (r - 1) := by
    rw [e]
    exact pk_sub (b := 1) h1
  have hle : (mBi_mix (mBi_code s key) &&& (s.2 4 3 - 1)).toBitVec.toNat ≤ r - 1 := by
    rw [e1, Int32.toBitVec_and, BitVec.toNat_and, pk_tn (by omega)]
    exact Nat.and_le_right
  have e3 := i32_tn (mBi_mix (mBi_code s key) &&& (s.2 4 3 - 1))
  show _ = nI ((mBi_mix (mBi_code s key) &&& (s.2 4 3 - 1)).toNatClampNeg % 4096)
  have e4 : (mBi_mix (mBi_code s key) &&& (s.2 4 3 - 1)).toNatClampNeg = (mBi_mix (mBi_code s key) &&& (s.2 4 3 - 1)).toBitVec.toNat := by
    conv => lhs; rw [e3]
    exact nI_clamp (by omega)
  rw [e4, Nat.mod_eq_of_lt (by omega)]
  exact e3
theorem Ln_leave_4 (s : zT) (a : zS) : (mLn_leave s a).2 4 3 = s.2 4 3 ∧ (mLn_leave s a).2 4 0 = s.2 4 0 ∧ (mLn_leave s a).2 4 1 = s.2 4 1 ∧ (mLn_leave s a).2 4 4 = s.2 4 4 ∧ ∀ q, q ≠ 4 → (mLn_leave s a).2 q = s.2 q := by
  unfold mLn_leave
  try dsimp only
  refine ⟨?_, ?_, ?_, ?_, fun q hq => ?_⟩
  · rw [u2_eq, zup_ne (by decide)]; show (mLn_unlink s a).2 4 3 = _; rw [Ln_unlink_2]
  · rw [u2_eq, zup_ne (by decide)]; show (mLn_unlink s a).2 4 0 = _; rw [Ln_unlink_2]
  · rw [u2_eq, zup_ne (by decide)]; show (mLn_unlink s a).2 4 1 = _; rw [Ln_unlink_2]
  · rw [u2_eq, zup_ne (by decide)]; show (mLn_unlink s a).2 4 4 = _; rw [Ln_unlink_2]
  · rw [u2_ne hq]; show (mLn_unlink s a).2 q = _; rw [Ln_unlink_2]
theorem rok_go {s : zT} {a : zS} (hr : rok s) : rok (mBM_go s a) := rok_of (s := s) (by unfold mBM_go; rw [(Ln_leave_4 _ a).1, Bi_remove_2 s a 4 (by decide)]) hr
theorem rok_come2 {s : zT} (hr : rok s) : rok (mBM_come2 s) := by
  unfold mBM_come2
  split
  · split
    · exact hr
    · exact rok_go hr
  · exact hr
theorem rok_again : ∀ (n : Nat) (a : zS) (s : zT), rok s → rok (mBM_againL n a s) := by
  intro n
  induction n with
  | zero => intro a s h; exact h
  | succ n ih => intro a s h; exact ih _ _ (rok_add h)
theorem rok_come {s : zT} {k x : Int32} (hr : rok s) : rok (mBM_come s k x) := by
  unfold mBM_come
  try dsimp only
  split
  · rename_i h
    exact rok_come2 (rok_again _ _ _ (rok_stretch (rok_add (rok_join hr)) h))
  · exact rok_come2 (rok_add (rok_join hr))
theorem rok_toEnd {s : zT} {a : zS} (hr : rok s) : rok (mLn_toEnd s a) := rok_of (s := s) (by unfold mLn_toEnd; rw [Ln_append_2, Ln_unlink_2]) hr
theorem rok_touch {s : zT} {a : zS} (hr : rok s) : rok (mBM_touch s a) := by
  unfold mBM_touch
  split
  · exact rok_toEnd hr
  · exact hr
theorem rok_change {s : zT} {a : zS} {x : Int32} (hr : rok s) : rok (mBM_change s a x) := rok_touch (s := u2 s 3 a x) hr
