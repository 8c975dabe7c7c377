/-! NOTHING IS WRONG -/
def brn (s : zT) (a : zS) : Nat := (if s.1 6 a = 0 then 0 else 1) + (if s.1 7 a = 0 then 0 else 1)
def sm (s : zT) : List zS → Nat
  | [] => 0
  | x :: xs => brn s x + sm s xs
theorem sm_app {s : zT} : ∀ {l1 l2 : List zS}, sm s (l1 ++ l2) = sm s l1 + sm s l2 := by
  intro l1
  induction l1 with
  | nil => intro l2; exact (Nat.zero_add _).symm
  | cons x xs ih =>
    intro l2
    show brn s x + sm s (xs ++ l2) = brn s x + sm s xs + sm s l2
    rw [ih, Nat.add_assoc]
theorem sm_perm {s : zT} {l1 l2 : List zS} (h : l1.Perm l2) : sm s l1 = sm s l2 := by
  induction h with
  | nil => rfl
  | cons x _ ih => show brn s x + _ = brn s x + _; rw [ih]
  | swap x y l => show brn s y + (brn s x + _) = brn s x + (brn s y + _); omega
  | trans _ _ i1 i2 => exact i1.trans i2
theorem br_eq (s : zT) (a : zS) : mTr_br s a = nI (brn s a) := by
  unfold mTr_br brn
  by_cases c : s.1 6 a = 0 <;> by_cases d : s.1 7 a = 0 <;> simp only [c, d, ↓reduceIte] <;> rfl
theorem sm_tree {s : zT} : ∀ {d h : Nat} {a : zS} {l : List zS}, zAv s d h a l → a ≠ 0 → sm s l + 1 = l.length := by
  intro d
  induction d with
  | zero => intro h a l q a0; exact absurd q.2.1 a0
  | succ d ih =>
    intro h a l q a0
    rcases q with ⟨-, c, -⟩ | ⟨-, hl, hr, l1, l2, q1, q2, -, -, -, -, el⟩
    · exact absurd c a0
    · rw [el, sm_app]
      show sm s l1 + (brn s a + sm s l2) + 1 = (l1 ++ a :: l2).length
      simp only [List.length_append, List.length_cons]
      have z1 := (zAt_0 ⟨d, q1⟩).2
      have z2 := (zAt_0 ⟨d, q2⟩).2
      unfold brn
      by_cases c1 : s.1 6 a = 0 <;> by_cases c2 : s.1 7 a = 0
      · rw [z1.mp c1, z2.mp c2, if_pos c1, if_pos c2]; rfl
      · have := ih q2 c2
        rw [z1.mp c1, if_pos c1, if_neg c2]
        simp only [sm, List.length_nil]
        omega
      · have := ih q1 c1
        rw [z2.mp c2, if_neg c1, if_pos c2]
        simp only [sm, List.length_nil]
        omega
      · have := ih q1 c1
        have := ih q2 c2
        rw [if_neg c1, if_neg c2]
        omega
theorem fa_0 {s : zT} (z : s.2 1 0 = 0) : ∀ {d h : Nat} {a : zS} {l : List zS}, zAv s d h a l → Srt s l → l.length ≤ 2001 → ∀ y ∈ l, mTr_fa s y = 0 := by
  intro d
  induction d with
  | zero => intro h a l q _ _ y hy; rw [q.2.2] at hy; cases hy
  | succ d ih =>
    intro h a l q st hl y hy
    rcases q with ⟨-, -, c⟩ | ⟨a0, hL, hR, l1, l2, q1, q2, e, b1, b2, hh, el⟩
    · rw [c] at hy; cases hy
    · have h21 : h ≤ 21 := zAt_21 (s := s) (a := a) ⟨d + 1, Or.inr ⟨a0, hL, hR, l1, l2, q1, q2, e, b1, b2, hh, el⟩⟩ hl
      rw [el] at st hl hy
      obtain ⟨s1, s2, s3, s4⟩ := Srt_node st
      simp only [List.length_append, List.length_cons] at hl
      rw [List.mem_append, List.mem_cons] at hy
      rcases hy with hy | hy | hy
      · exact ih q1 s1 (by omega) y hy
      · subst hy
        have m1 : s.1 6 y ≠ 0 → s.2 0 (s.1 6 y) < s.2 0 y := fun c => s3 _ (zAt_mem ⟨d, q1⟩ c)
        have m2 : s.1 7 y ≠ 0 → s.2 0 y < s.2 0 (s.1 7 y) := fun c => s4 _ (zAt_mem ⟨d, q2⟩ c)
        have e1 := zAt_h z (s := s) ⟨d, q1⟩
        have e2 := zAt_h z (s := s) ⟨d, q2⟩
        have f4 : ∀ x, mTr_fa4 s y x = x := fun x => by
          unfold mTr_fa4
          rw [over_eq e1 e2 (by omega) (by omega), ← e, if_pos hh]
        have f3 : ∀ x, mTr_fa3 s y x = x := fun x => by
          unfold mTr_fa3
          rw [e1, e2, if_neg (fun c => by have := (dlt (by omega) (by omega)).mp c; omega), if_pos ((dle (by omega) (by omega)).mpr b1)]
          exact f4 x
        have f2 : ∀ x, mTr_fa2 s y x = x := fun x => by
          unfold mTr_fa2
          by_cases c : s.1 7 y = 0
          · rw [if_pos c]; exact f3 x
          · rw [if_neg c, if_pos (m2 c)]; exact f3 x
        unfold mTr_fa
        by_cases c : s.1 6 y = 0
        · rw [if_pos c]; exact f2 0
        · rw [if_neg c, if_pos (m1 c)]; exact f2 0
      · exact ih q2 s2 (by omega) y hy
theorem tfL_spec {s : zT} {len : Int32} : ∀ {l : List zS} {a : zS} {k : Nat}, Sg (s.1 2) a l 0 → (∀ y ∈ l, mTr_fa s y = 0) → mBi_tfL s len l.length 0 (nI k) a = (if nI (k + sm s l) = len - 1 then 0 else 1) := by
  intro l
  induction l with
  | nil => intro a k _ _; rfl
  | cons y ys ih =>
    intro a k sg hf
    obtain ⟨ea, y0, sg2⟩ := sg
    show mBi_tfL s len ys.length (0 + mTr_fa s a) (nI k + mTr_br s a) (s.1 2 a) = _
    rw [ea, hf y List.mem_cons_self, br_eq, nI_add, show (0 : Int32) + 0 = 0 from rfl, ih sg2 (fun x hx => hf x (List.mem_cons_of_mem _ hx))]
    show (if nI (k + brn s y + sm s ys) = len - 1 then (0 : Int32) else 1) = (if nI (k + (brn s y + sm s ys)) = len - 1 then (0 : Int32) else 1)
    rw [Nat.add_assoc]
theorem BI_blen {s : zT} {ln : List zS} {bn : zP → List zS} (h : BI s ln bn) (p : zP) : mBi_len s p = nI (bn p).length := by
  unfold mBi_len
  rw [lenL_spec (h.2.2.2.2.2 p).1.1.1 (by have := BI_len h p; have := h.2.2.2.2.1; omega), Nat.zero_add]
theorem BI_tf {s : zT} {ln : List zS} {bn : zP → List zS} (h : BI s ln bn) (p : zP) : mBi_tf s p = 0 := by
  have hlen := BI_len h p
  have hl := h.2.2.2.2.1
  unfold mBi_tf
  rw [BI_blen h p, nI_clamp (by omega)]
  rcases (h.2.2.2.2.2 p).1.2 with ⟨r0, l8⟩ | ⟨r0, hh, l, h3, t, st, pm⟩
  · rw [if_pos r0, if_pos (show nI (bn p).length ≤ 8 from (nI_leI (b := 8) (by omega) (by decide)).mpr l8)]
  · have e := zAt_h h.1 t
    have h21 := zAt_21 t (by rw [pm.length_eq]; omega)
    rw [if_neg r0, e, if_pos (show 3 ≤ nI hh from (nI_leI (a := 3) (by decide) (by omega)).mpr h3)]
    have hf : ∀ y ∈ bn p, mTr_fa s y = 0 := fun y hy => by
      obtain ⟨d, t⟩ := t
      exact fa_0 h.1 t st (by rw [pm.length_eq]; omega) y (pm.mem_iff.mpr hy)
    have := tfL_spec (len := nI (bn p).length) (k := 0) (h.2.2.2.2.2 p).1.1.1 hf
    rw [show (0 : Int32) = nI 0 from rfl] at this ⊢
    rw [this, if_pos]
    obtain ⟨d, t⟩ := t
    have e2 := sm_tree t r0
    rw [← sm_perm pm, ← pm.length_eq, ← e2, nI_pred, Nat.zero_add]
theorem faL_bins {s : zT} {p : zP} : ∀ {n : Nat} {l : List zS} {a f : zS}, Sg (s.1 2) a l 0 → Bk (s.1 3) f l → f ≠ 0 → l.length ≤ n → (∀ x ∈ l, plc s x = p ∧ mBi_find s (s.2 0 x) = x) → mBi_faL s p n 0 f a = mBi_fa1 s p 0 (lst f l) := by
  intro n
  induction n with
  | zero =>
    intro l a f sg bk f0 hl _
    cases l with
    | nil => rfl
    | cons y ys => simp at hl
  | succ n ih =>
    intro l a f sg bk f0 hl hx
    cases l with
    | nil =>
      have ha : a = 0 := sg
      rw [mBi_faL, if_pos ha]
      rfl
    | cons y ys =>
      obtain ⟨ea, y0, sg2⟩ := sg
      obtain ⟨c1, c2⟩ := hx y List.mem_cons_self
      rw [mBi_faL, ea, if_neg y0]
      have e1 : mBi_faL1 s p y f 0 = 0 := by
        unfold mBi_faL1 mBi_faL2
        rw [if_pos (show mBi_place s (s.2 0 y) = p from c1), if_pos c2, if_neg f0, if_pos bk.1]
      rw [e1]
      exact ih sg2 bk.2 y0 (by simpa using hl) (fun x h => hx x (List.mem_cons_of_mem _ h))
theorem BI_fa {s : zT} {ln : List zS} {bn : zP → List zS} (h : BI s ln bn) (p : zP) : mBi_fa s p = 0 := by
  have hlen := BI_len h p
  have hl := h.2.2.2.2.1
  have hx : ∀ x ∈ bn p, plc s x = p ∧ mBi_find s (s.2 0 x) = x := fun x hx => ⟨((BI_mem h).mp hx).2, (BI_find h _).1 x ((BI_mem h).mp hx).1 rfl⟩
  have hb := (h.2.2.2.2.2 p).1.1
  have ht := BI_tf h p
  generalize bn p = b at *
  unfold mBi_fa
  cases b with
  | nil =>
    have h4 : s.1 4 p = 0 := hb.1
    rw [mBi_faL, if_pos h4]
    unfold mBi_fa1
    rw [if_pos rfl, ht]
    rfl
  | cons y ys =>
    obtain ⟨e, y0, el⟩ := BnC_head hb
    obtain ⟨c1, c2⟩ := hx y List.mem_cons_self
    rw [mBi_faL, e, if_neg y0]
    have e1 : mBi_faL1 s p y 0 0 = 0 := by
      unfold mBi_faL1 mBi_faL2
      rw [if_pos (show mBi_place s (s.2 0 y) = p from c1), if_pos c2, if_pos rfl]
    rw [e1, faL_bins hb.1.2.2 hb.2.2 y0 (by simp at hlen; omega) (fun x h => hx x (List.mem_cons_of_mem _ h))]
    unfold mBi_fa1
    rw [e, el, ht, if_pos rfl]
    split <;> rfl
/-- lists are cut by a number, and laid together again -/
theorem filt_or {α : Type} (f : α → Nat) (R : Nat) : ∀ l : List α, (l.filter (fun x => decide (f x < R)) ++ l.filter (fun x => decide (f x = R))).Perm (l.filter (fun x => decide (f x < R + 1))) := by
  intro l
  induction l with
  | nil => exact List.Perm.refl _
  | cons y ys ih =>
    rcases Nat.lt_trichotomy (f y) R with c | c | c
    · rw [List.filter_cons_of_pos (by simpa using c), List.filter_cons_of_neg (by simp; omega), List.filter_cons_of_pos (by simp; omega)]
      exact List.Perm.cons _ ih
    · rw [List.filter_cons_of_neg (by simp; omega), List.filter_cons_of_pos (by simpa using c), List.filter_cons_of_pos (by simp; omega)]
      exact List.perm_middle.trans (List.Perm.cons _ ih)
    · rw [List.filter_cons_of_neg (by simp; omega), List.filter_cons_of_neg (by simp; omega), List.filter_cons_of_neg (by simp; omega)]
      exact ih
theorem flat_perm {α : Type} (f : α → Nat) (l : List α) : ∀ R, ((List.range R).flatMap (fun p => l.filter (fun x => decide (f x = p)))).Perm (l.filter (fun x => decide (f x < R))) := by
  intro R
  induction R with
  | zero => simp
  | succ R ih =>
    rw [List.range_succ, List.flatMap_append, List.flatMap_singleton]
    exact (ih.append_right _).trans (filt_or f R l)
theorem flat_all {α : Type} (f : α → Nat) (l : List α) (R : Nat) (h : ∀ x ∈ l, f x < R) : ((List.range R).flatMap (fun p => l.filter (fun x => decide (f x = p)))).Perm l := by
  have := flat_perm f l R
  rw [List.filter_eq_self.mpr (fun x hx => by simpa using h x hx)] at this
  exact this
theorem place_lt {s : zT} {key : Int32} (hr : rok s) : (mBi_place s key).val < (s.2 4 3).toNatClampNeg := by
  obtain ⟨r, h1, h2, e⟩ := rok_nI hr
  have e1 : s.2 4 3 - 1 = nI (r - 1) := by rw [e]; exact nI_m1 h1
  have hle : (mBi_mix (mBi_code s key) &&& (s.2 4 3 - 1)).toBitVec.toNat ≤ r - 1 := by
    rw [e1, Int32.toBitVec_and, BitVec.toNat_and, pk_tn (by omega)]
    exact Nat.and_le_right
  have e3 := place_eq (s := s) (key := key) hr
  rw [e3] at hle
  have : (zp (mBi_place s key)).toBitVec.toNat = (mBi_place s key).val := pk_tn (by have := (mBi_place s key).isLt; omega)
  rw [this] at hle
  rw [e, nI_clamp (by omega)]
  omega
theorem fsm {bn : Nat → List zS} {g : Nat → List zS} (h : ∀ i, (bn i).length = (g i).length) : ∀ l : List Nat, (l.flatMap bn).length = (l.flatMap g).length := by
  intro l
  induction l with
  | nil => rfl
  | cons x xs ih => rw [List.flatMap_cons, List.flatMap_cons, List.length_append, List.length_append, h x, ih]
theorem faultsL_spec {s : zT} {ln : List zS} {bn : zP → List zS} {c : Int32} (h : BI s ln bn) : ∀ (n i k : Nat), mBi_faultsL s c n i 0 (nI k) = mBi_faults1 s c 0 (nI (k + ((List.range' i n).flatMap (fun q => bn (Fin.ofNat 4096 q))).length)) := by
  intro n
  induction n with
  | zero => intro i k; rfl
  | succ n ih =>
    intro i k
    show mBi_faultsL s c n (i + 1) (0 + mBi_fa s (Fin.ofNat 4096 i)) (nI k + mBi_len s (Fin.ofNat 4096 i)) = _
    rw [BI_fa h, BI_blen h, nI_add, show (0 : Int32) + 0 = 0 from rfl, ih, List.range'_succ, List.flatMap_cons, List.length_append, Nat.add_assoc]
theorem BI_flat {s : zT} {ln : List zS} {bn : zP → List zS} (h : BI s ln bn) (hr : rok s) : ((List.range (s.2 4 3).toNatClampNeg).flatMap (fun q => bn (Fin.ofNat 4096 q))).length = ln.length := by
  have e1 := (flat_all (fun x : zS => (plc s x).val) ln (s.2 4 3).toNatClampNeg (fun x _ => place_lt hr)).length_eq
  rw [← e1]
  have hR := rok_le hr
  have key : ∀ l : List Nat, (∀ p ∈ l, p < 4096) → (l.flatMap (fun q => bn (Fin.ofNat 4096 q))).length = (l.flatMap (fun p => ln.filter (fun x => decide ((plc s x).val = p)))).length := by
    intro l
    induction l with
    | nil => intro _; rfl
    | cons p ps ih =>
      intro hp
      rw [List.flatMap_cons, List.flatMap_cons, List.length_append, List.length_append, ih (fun q hq => hp q (List.mem_cons_of_mem _ hq)), (h.2.2.2.2.2 (Fin.ofNat 4096 p)).2.length_eq]
      have hp4 := hp p List.mem_cons_self
      have : (fun x => decide (plc s x = Fin.ofNat 4096 p)) = (fun x : zS => decide ((plc s x).val = p)) := by
        funext x
        have : (plc s x = Fin.ofNat 4096 p) ↔ ((plc s x).val = p) := by
          rw [Fin.ext_iff]
          show _ = p % 4096 ↔ _
          rw [Nat.mod_eq_of_lt hp4]
        simp only [this]
      rw [this]
  exact key _ (fun p hp => by have := List.mem_range.mp hp; omega)
theorem Inv_bfaults {s : zT} {ln fr : List zS} {bn : zP → List zS} (h : Inv s ln fr bn) : mBi_faults s (s.2 4 2) = 0 := by
  obtain ⟨⟨hL, hB, hE, hR, hF⟩, hM⟩ := h
  unfold mBi_faults
  have e := faultsL_spec (c := s.2 4 2) hB (s.2 4 3).toNatClampNeg 0 0
  rw [show (0 : Int32) = nI 0 from rfl] at e ⊢
  rw [e, ← List.range_eq_range', BI_flat hB (RM_rok hR), Nat.zero_add]
  unfold mBi_faults1 mBi_faults2
  have hc := hL.2.2.2.2.2.2
  rw [hc, if_pos rfl, tight_f hR hB.2.2.2.2.1]
  rfl
