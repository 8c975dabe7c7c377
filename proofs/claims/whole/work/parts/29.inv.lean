/-! THE WHOLE STATE OF THE CLASS -/
theorem LnI_cg {s s' : zT} {ln fr : List zS} (h : LnI s ln fr) (r0 : s'.1 0 = s.1 0) (r1 : s'.1 1 = s.1 1) (r9 : s'.1 9 = s.1 9) (c : s'.2 4 2 = s.2 4 2) : LnI s' ln fr := by
  obtain ⟨h1, h2, h3, h4, h5, h6, h7⟩ := h
  exact ⟨by rw [r1, r9]; exact h1, by rw [r0]; exact h2, by rw [r9]; exact h3, by rw [r1, r9]; exact h4, h5, h6, c.trans h7⟩
theorem join_1 (s : zT) : ∀ q, q ≠ 0 → q ≠ 1 → q ≠ 9 → (mLn_join s).2.1 q = s.1 q := fun q h0 h1 h9 => by
  show (mLn_append (u1 s 9 2 (s.1 1 (s.1 9 2))) (s.1 9 2)).1 q = s.1 q
  rw [(LnI_app_rows _ _).2.2.2.2.2 q h0 h1 h9, u1_ne h9]
theorem join_2 (s : zT) : (∀ q, q ≠ 4 → (mLn_join s).2.2 q = s.2 q) ∧ ∀ i, i ≠ 2 → (mLn_join s).2.2 4 i = s.2 4 i := by
  have e := Ln_append_2 (u1 s 9 2 (s.1 1 (s.1 9 2))) (s.1 9 2)
  refine ⟨fun q hq => ?_, fun i hi => ?_⟩
  · show (u2 (mLn_append (u1 s 9 2 (s.1 1 (s.1 9 2))) (s.1 9 2)) 4 2 _).2 q = s.2 q
    rw [u2_ne hq, e]; rfl
  · show (u2 (mLn_append (u1 s 9 2 (s.1 1 (s.1 9 2))) (s.1 9 2)) 4 2 _).2 4 i = s.2 4 i
    rw [u2_at, if_neg hi, e]; rfl
theorem leave_1 (s : zT) (a : zS) : ∀ q, q ≠ 0 → q ≠ 1 → q ≠ 9 → (mLn_leave s a).1 q = s.1 q := fun q h0 h1 h9 => by
  show (u1 (u1 (mLn_unlink s a) 1 a _) 9 2 a).1 q = s.1 q
  rw [u1_ne h9, u1_ne h1, (LnI_unl_rows s a).2.2.2.2.2 q h0 h1 h9]
theorem toEnd_1 (s : zT) (a : zS) : ∀ q, q ≠ 0 → q ≠ 1 → q ≠ 9 → (mLn_toEnd s a).1 q = s.1 q := fun q h0 h1 h9 => by
  unfold mLn_toEnd
  rw [(LnI_app_rows _ _).2.2.2.2.2 q h0 h1 h9, (LnI_unl_rows s a).2.2.2.2.2 q h0 h1 h9]
theorem toEnd_2 (s : zT) (a : zS) : (mLn_toEnd s a).2 = s.2 := by
  unfold mLn_toEnd
  rw [Ln_append_2, Ln_unlink_2]
theorem ldrain_1 (s : zT) : ∀ q, q ≠ 1 → q ≠ 9 → (mLn_drain s).1 q = s.1 q := fun q h1 h9 => by
  unfold mLn_drain
  dsimp only
  split
  · show (u1 (u1 s 9 0 0) 9 1 0).1 q = s.1 q
    rw [u1_ne h9, u1_ne h9]
  · show (u1 (u1 (u1 (u1 s 1 (s.1 9 1) (s.1 9 2)) 9 2 _) 9 0 0) 9 1 0).1 q = s.1 q
    rw [u1_ne h9, u1_ne h9, u1_ne h9, u1_ne h1]
theorem ldrain_2 (s : zT) : (∀ q, q ≠ 4 → (mLn_drain s).2 q = s.2 q) ∧ ∀ i, i ≠ 2 → (mLn_drain s).2 4 i = s.2 4 i := by
  unfold mLn_drain
  dsimp only
  split
  · exact ⟨fun q hq => u2_ne hq, fun i hi => by rw [u2_at, if_neg hi]; rfl⟩
  · exact ⟨fun q hq => u2_ne hq, fun i hi => by rw [u2_at, if_neg hi]; rfl⟩
/-- the room is a number of places, and n keys aren't too many for it -/
def RM (s : zT) (n : Nat) : Prop := ∃ e : Nat, e ≤ 8 ∧ s.2 4 3 = nI (2 ^ (e + 4)) ∧ 4 * n ≤ 3 * 2 ^ (e + 4)
theorem RM_rok {s : zT} {n : Nat} (h : RM s n) : rok s := by
  obtain ⟨e, h1, h2, -⟩ := h
  exact ⟨e, h1, h2⟩
theorem RM_cg {s s' : zT} {n n' : Nat} (h : RM s n) (c : s'.2 4 3 = s.2 4 3) (hn : n' ≤ n) : RM s' n' := by
  obtain ⟨e, h1, h2, h3⟩ := h
  exact ⟨e, h1, c.trans h2, by omega⟩
theorem p2e {e : Nat} (h : e ≤ 8) : 2 ^ (e + 4) ≤ 4096 ∧ 16 ≤ 2 ^ (e + 4) := ⟨Nat.le_trans (Nat.pow_le_pow_right (by decide) (show e + 4 ≤ 12 by omega)) (by decide), Nat.le_trans (by decide) (Nat.pow_le_pow_right (n := 2) (by decide) (show 4 ≤ e + 4 by omega))⟩
theorem tight_f {s : zT} {n : Nat} (h : RM s n) (hn : n ≤ 2001) : mBi_tight s (nI n) = false := by
  obtain ⟨e, h1, h2, h3⟩ := h
  have := p2e h1
  unfold mBi_tight
  have c : nI n * 4 ≤ s.2 4 3 * 3 := by
    rw [h2]
    show nI n * nI 4 ≤ nI (2 ^ (e + 4)) * nI 3
    rw [pk_mul, pk_mul]
    exact (nI_leI (by omega) (by omega)).mpr (by omega)
  rw [decide_eq_true c]
  rfl
theorem tight_t {s : zT} {n : Nat} (h : RM s n) (hn : n + 1 ≤ 2001) : (mBi_tight s (nI (n + 1)) = false → RM s (n + 1)) ∧ (mBi_tight s (nI (n + 1)) = true → RM (mBi_stretch s) (n + 1)) := by
  obtain ⟨e, h1, h2, h3⟩ := h
  have hp := p2e h1
  have e8 : e ≠ 8 ∨ 2 ^ (e + 4) = 4096 := by
    rcases Nat.lt_or_ge e 8 with c | c
    · exact Or.inl (by omega)
    · have : e = 8 := by omega
      subst this
      exact Or.inr (by decide)
  constructor
  · intro ht
    refine ⟨e, h1, h2, ?_⟩
    unfold mBi_tight at ht
    rw [Bool.and_eq_false_iff] at ht
    rcases ht with ht | ht
    · have c : nI (n + 1) * 4 ≤ s.2 4 3 * 3 := by
        cases c : decide (nI (n + 1) * 4 ≤ s.2 4 3 * 3) with
        | true => exact of_decide_eq_true c
        | false => rw [c] at ht; cases ht
      rw [h2] at c
      have c : nI (n + 1) * nI 4 ≤ nI (2 ^ (e + 4)) * nI 3 := c
      rw [pk_mul, pk_mul] at c
      have := (nI_leI (by omega) (by omega)).mp c
      omega
    · have c : (4096 : Int32) ≤ s.2 4 3 := by
        cases c : decide ((4096 : Int32) ≤ s.2 4 3) with
        | true => exact of_decide_eq_true c
        | false => rw [c] at ht; cases ht
      rw [h2] at c
      have := (nI_leI (a := 4096) (by decide) (by omega)).mp c
      omega
  · intro ht
    have h3' : ¬ (4096 : Int32) ≤ s.2 4 3 := by
      unfold mBi_tight at ht
      simp only [Bool.and_eq_true, Bool.not_eq_true', decide_eq_false_iff_not] at ht
      exact ht.2
    have h8 : e ≠ 8 := fun q => by
      subst q
      exact h3' (by rw [h2]; decide)
    refine ⟨e + 1, by omega, ?_, ?_⟩
    · show s.2 4 3 * nI 2 = _
      rw [h2, pk_mul, Nat.pow_succ 2 (e + 4)]
    · rw [show e + 1 + 4 = (e + 4) + 1 by omega, Nat.pow_succ]
      omega
def FN (s : zT) : Prop := s.2 4 4 = 0 ∨ s.2 4 4 = 1 ∨ s.2 4 4 = 2
def MD (s : zT) (n : Nat) : Prop := (s.2 4 0 = 2 ∧ ∃ M, 1 ≤ M ∧ M ≤ 2000 ∧ s.2 4 1 = nI M ∧ n ≤ M) ∨ ((s.2 4 0 = 0 ∨ s.2 4 0 = 1) ∧ n ≤ 2000)
def Inv0 (s : zT) (ln fr : List zS) (bn : zP → List zS) : Prop := LnI s ln fr ∧ BI s ln bn ∧ (s.2 4 0 ≠ 2 → BEx s ln bn) ∧ RM s ln.length ∧ FN s
def Inv (s : zT) (ln fr : List zS) (bn : zP → List zS) : Prop := Inv0 s ln fr bn ∧ MD s ln.length
/-- what the other rows of ints keep -/
def sK (s s' : zT) : Prop := s'.2 4 0 = s.2 4 0 ∧ s'.2 4 1 = s.2 4 1 ∧ s'.2 4 4 = s.2 4 4
theorem sK.tr {a b c : zT} (h : sK a b) (k : sK b c) : sK a c := ⟨k.1.trans h.1, k.2.1.trans h.2.1, k.2.2.trans h.2.2⟩
theorem MD_cg {s s' : zT} {n n' : Nat} (h : MD s n) (k : sK s s') (hn : n' ≤ n) : MD s' n' := by
  obtain ⟨k0, k1, -⟩ := k
  unfold MD
  rw [k0, k1]
  rcases h with ⟨h0, M, h1, h2, h3, h4⟩ | ⟨h0, h1⟩
  · exact Or.inl ⟨h0, M, h1, h2, h3, by omega⟩
  · exact Or.inr ⟨h0, by omega⟩
theorem FN_cg {s s' : zT} (h : FN s) (k : sK s s') : FN s' := by
  unfold FN
  rw [k.2.2]
  exact h
theorem MD_len {s : zT} {n : Nat} (h : MD s n) : n ≤ 2000 := by
  rcases h with ⟨-, M, -, h2, -, h4⟩ | ⟨-, h⟩ <;> omega
theorem BEx_cg {s s' : zT} {ln : List zS} {bn : zP → List zS} (h : BEx s ln bn) (hp : ∀ x ∈ ln, plc s' x = plc s x) : BEx s' ln bn := fun p => by
  rw [h p]
  exact List.filter_congr (fun x hx => by rw [hp x hx])
/-- A SLOT GOES -/
theorem Inv0_go {s : zT} {l1 l2 fr : List zS} {bn : zP → List zS} {a : zS} (h : Inv0 s (l1 ++ a :: l2) fr bn) : (∃ bn', Inv0 (mBM_go s a) (l1 ++ l2) (a :: fr) bn') ∧ sK s (mBM_go s a) ∧ (mBM_go s a).2 4 3 = s.2 4 3 ∧ (mBM_go s a).2 0 = s.2 0 ∧ (mBM_go s a).2 3 = s.2 3 := by
  obtain ⟨hL, hB, hE, hR, hF⟩ := h
  have e1 : ∀ q, q ≠ 2 → q ≠ 3 → q ≠ 4 → q ≠ 5 → q ≠ 6 → q ≠ 7 → q ≠ 8 → (mBi_remove s a).1 q = s.1 q := remove_rows s a
  have e2 : ∀ q, q ≠ 1 → (mBi_remove s a).2 q = s.2 q := fun q hq => Bi_remove_2 s a q hq
  obtain ⟨g3, g0, g1, g4, g⟩ := Ln_leave_4 (mBi_remove s a) a
  have hL1 : LnI (mBi_remove s a) (l1 ++ a :: l2) fr := LnI_cg hL (e1 0 (by decide) (by decide) (by decide) (by decide) (by decide) (by decide) (by decide)) (e1 1 (by decide) (by decide) (by decide) (by decide) (by decide) (by decide) (by decide)) (e1 9 (by decide) (by decide) (by decide) (by decide) (by decide) (by decide) (by decide)) (by rw [e2 4 (by decide)])
  have k : sK s (mBM_go s a) := ⟨g0.trans (by rw [e2 4 (by decide)]), g1.trans (by rw [e2 4 (by decide)]), g4.trans (by rw [e2 4 (by decide)])⟩
  have k3 : (mBM_go s a).2 4 3 = s.2 4 3 := g3.trans (by rw [e2 4 (by decide)])
  have kk : (mBM_go s a).2 0 = s.2 0 := (g 0 (by decide)).trans (e2 0 (by decide))
  refine ⟨⟨fun q => if q = plc s a then (bn q).erase a else bn q, LnI_leave hL1, ?_, ?_, RM_cg hR k3 (by simp), FN_cg hF k⟩, k, k3, kk, (g 3 (by decide)).trans (e2 3 (by decide))⟩
  · exact BI_congr (fun q h2 h7 => leave_1 _ _ q (by omega) (by omega) (by omega)) (g 1 (by decide)) g3 g4 (fun x _ => by show (mLn_leave (mBi_remove s a) a).2 0 x = _; rw [g 0 (by decide)]) (BI_remove hB)
  · intro hm
    have ha : a ∉ l1 := fun q => by
      have := hB.2.2.2.1
      exact (List.nodup_append.mp this).2.2 a q a List.mem_cons_self rfl
    refine BEx_remove (hE (by rw [← k.1]; exact hm)) ha (fun x => ?_)
    show mBi_place (mBM_go s a) ((mBM_go s a).2 0 x) = mBi_place s (s.2 0 x)
    rw [kk]
    exact place_cg k3 k.2.2 _
/-- a number is set, and in mode 2 the slot goes to the end -/
theorem Inv_num {s : zT} {ln fr : List zS} {bn : zP → List zS} (a : zS) (x : Int32) (h : Inv s ln fr bn) : Inv (u2 s 3 a x) ln fr bn := by
  obtain ⟨⟨hL, hB, hE, hR, hF⟩, hM⟩ := h
  exact ⟨⟨LnI_cg (s := s) hL rfl rfl rfl rfl, BI_congr (s := s) (fun _ _ _ => rfl) rfl rfl rfl (fun _ _ => rfl) hB, fun hm => BEx_cg (s := s) (hE hm) (fun _ _ => rfl), RM_cg (s := s) hR rfl (Nat.le_refl _), hF⟩, hM⟩
theorem Inv_toEnd {s : zT} {l1 l2 fr : List zS} {bn : zP → List zS} {a : zS} (h : Inv s (l1 ++ a :: l2) fr bn) (hm : s.2 4 0 = 2) : Inv (mLn_toEnd s a) ((l1 ++ l2) ++ [a]) fr bn := by
  obtain ⟨⟨hL, hB, hE, hR, hF⟩, hM⟩ := h
  have e := toEnd_2 s a
  have pm : (l1 ++ a :: l2).Perm ((l1 ++ l2) ++ [a]) := List.perm_middle.trans (List.perm_append_singleton a (l1 ++ l2)).symm
  have k : sK s (mLn_toEnd s a) := ⟨by rw [e], by rw [e], by rw [e]⟩
  refine ⟨⟨LnI_toEnd hL, ?_, fun q => absurd (by rw [e]; exact hm) q, RM_cg hR (by rw [e]) (by rw [pm.length_eq]; exact Nat.le_refl _), FN_cg hF k⟩, MD_cg hM k (by rw [pm.length_eq]; exact Nat.le_refl _)⟩
  exact BI_congr (fun q h2 h7 => toEnd_1 _ _ q (by omega) (by omega) (by omega)) (by rw [e]) (by rw [e]) (by rw [e]) (fun x _ => by rw [e]) (BI_perm pm hB)
