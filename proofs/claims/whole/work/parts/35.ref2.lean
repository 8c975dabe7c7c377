/-! THE REFERENCE LAYS ITS ORDER -/
theorem mpl_cg {m m' : zM} (h : m'.1 = m.1) (k : Int32) : mMo_place m' k = mMo_place m k := by
  unfold mMo_place mMo_code
  simp only [h]
theorem mplace_lt {m : zM} {key : Int32} (hr : mrok m) : (mMo_place m key).val < (m.1 4 4).toNatClampNeg := by
  obtain ⟨r, h1, h2, e⟩ := mrok_nI hr
  have e1 : m.1 4 4 - 1 = nI (r - 1) := by rw [e]; exact nI_m1 h1
  have hle : (mBi_mix (mMo_code m key) &&& (m.1 4 4 - 1)).toBitVec.toNat ≤ r - 1 := by
    rw [e1, Int32.toBitVec_and, BitVec.toNat_and, pk_tn (by omega)]
    exact Nat.and_le_right
  have e3 := mplace_eq (m := m) (key := key) hr
  rw [e3] at hle
  have : (zp (mMo_place m key)).toBitVec.toNat = (mMo_place m key).val := pk_tn (by have := (mMo_place m key).isLt; omega)
  rw [this] at hle
  rw [e, nI_clamp (by omega)]
  omega
theorem layI_spec : ∀ {n i : Nat} {m : zM} (x : Nat), (mMo_layI n i m).2.1 x = if i ≤ x ∧ x < i + n then Fin.ofNat 2000 x else m.2.1 x := by
  intro n
  induction n with
  | zero => intro i m x; have p : ¬ (i ≤ x ∧ x < i + 0) := by omega
            rw [if_neg p]; rfl
  | succ n ih =>
    intro i m x
    show (mMo_layI n (i + 1) (yo m i (Fin.ofNat 2000 i))).2.1 x = _
    rw [ih]
    have e : (yo m i (Fin.ofNat 2000 i)).2.1 x = if x = i then Fin.ofNat 2000 i else m.2.1 x := rfl
    rw [e]
    by_cases c : x = i
    · subst c
      have p1 : ¬ (x + 1 ≤ x ∧ x < x + 1 + n) := by omega
      have p2 : x ≤ x ∧ x < x + (n + 1) := by omega
      rw [if_neg p1, if_pos rfl, if_pos p2]
    · by_cases c2 : i + 1 ≤ x ∧ x < i + 1 + n
      · have p2 : i ≤ x ∧ x < i + (n + 1) := by omega
        rw [if_pos c2, if_pos p2]
      · have p2 : ¬ (i ≤ x ∧ x < i + (n + 1)) := by omega
        rw [if_neg c2, if_neg c, if_neg p2]
theorem lay0_spec : ∀ {n i : Nat} {m : zM} (x : Nat), (mMo_lay0 n i m).2.2.1 x = if i ≤ x ∧ x < i + n then 0 else m.2.2.1 x := by
  intro n
  induction n with
  | zero => intro i m x; have p : ¬ (i ≤ x ∧ x < i + 0) := by omega
            rw [if_neg p]; rfl
  | succ n ih =>
    intro i m x
    show (mMo_lay0 n (i + 1) (yh m i 0)).2.2.1 x = _
    rw [ih]
    have e : (yh m i 0).2.2.1 x = if x = i then 0 else m.2.2.1 x := rfl
    rw [e]
    by_cases c : x = i
    · subst c
      have p1 : ¬ (x + 1 ≤ x ∧ x < x + 1 + n) := by omega
      have p2 : x ≤ x ∧ x < x + (n + 1) := by omega
      rw [if_neg p1, if_pos rfl, if_pos p2]
    · by_cases c2 : i + 1 ≤ x ∧ x < i + 1 + n
      · have p2 : i ≤ x ∧ x < i + (n + 1) := by omega
        rw [if_pos c2, if_pos p2]
      · have p2 : ¬ (i ≤ x ∧ x < i + (n + 1)) := by omega
        rw [if_neg c2, if_neg c, if_neg p2]
theorem lay1_spec {pl : Nat → Nat} : ∀ {n i : Nat} {m : zM}, (∀ j, (mMo_place m (m.1 0 j)).val = pl j) → ∀ p, (mMo_lay1 n i m).2.2.1 p = m.2.2.1 p + ((List.range' i n).filter (fun j => decide (pl j = p))).length := by
  intro n
  induction n with
  | zero => intro i m _ p; rfl
  | succ n ih =>
    intro i m hp p
    show (mMo_lay1 n (i + 1) (yh m (mMo_place m (m.1 0 i)) (m.2.2.1 (mMo_place m (m.1 0 i)) + 1))).2.2.1 p = _
    rw [ih (m := yh m (mMo_place m (m.1 0 i)) (m.2.2.1 (mMo_place m (m.1 0 i)) + 1)) hp, List.range'_succ, hp i]
    have e : (yh m (pl i) (m.2.2.1 (pl i) + 1)).2.2.1 p = if p = pl i then m.2.2.1 (pl i) + 1 else m.2.2.1 p := rfl
    rw [e]
    by_cases c : p = pl i
    · rw [if_pos c, List.filter_cons_of_pos (by simpa using c.symm), List.length_cons, c]
      omega
    · rw [if_neg c, List.filter_cons_of_neg (by simpa using fun q => c q.symm)]
def offs (h : Nat → Nat) : Nat → Nat
  | 0 => 0
  | q + 1 => offs h q + h q
theorem lay2_spec {h : Nat → Nat} : ∀ {n p : Nat} {m : zM}, (∀ r, p ≤ r → m.2.2.1 r = h r) → ∀ q, (mMo_lay2 n p (offs h p) m).2.2.1 q = if p ≤ q ∧ q < p + n then offs h q else m.2.2.1 q := by
  intro n
  induction n with
  | zero => intro p m _ q; have c : ¬ (p ≤ q ∧ q < p + 0) := by omega
            rw [if_neg c]; rfl
  | succ n ih =>
    intro p m hm q
    show (mMo_lay2 n (p + 1) (offs h p + m.2.2.1 p) (yh m p (offs h p))).2.2.1 q = _
    have e1 : offs h p + m.2.2.1 p = offs h (p + 1) := by rw [hm p (Nat.le_refl _)]; rfl
    have e : ∀ q, (yh m p (offs h p)).2.2.1 q = if q = p then offs h p else m.2.2.1 q := fun q => rfl
    rw [e1, ih (fun r hr => by rw [e, if_neg (by omega)]; exact hm r (by omega)), e]
    by_cases c : q = p
    · subst c
      have p1 : ¬ (q + 1 ≤ q ∧ q < q + 1 + n) := by omega
      have p2 : q ≤ q ∧ q < q + (n + 1) := by omega
      rw [if_neg p1, if_pos rfl, if_pos p2]
    · by_cases c2 : p + 1 ≤ q ∧ q < p + 1 + n
      · have p2 : p ≤ q ∧ q < p + (n + 1) := by omega
        rw [if_pos c2, if_pos p2]
      · have p2 : ¬ (p ≤ q ∧ q < p + (n + 1)) := by omega
        rw [if_neg c2, if_neg c, if_neg p2]
abbrev Fi (pl : Nat → Nat) (i p : Nat) : List Nat := (List.range i).filter (fun j => decide (pl j = p))
theorem Fi_succ {pl : Nat → Nat} {i p : Nat} : Fi pl (i + 1) p = if pl i = p then Fi pl i p ++ [i] else Fi pl i p := by
  show (List.range (i + 1)).filter _ = _
  rw [List.range_succ, List.filter_append]
  by_cases c : pl i = p
  · rw [if_pos c, List.filter_cons_of_pos (by simpa using c)]
    rfl
  · rw [if_neg c, List.filter_cons_of_neg (by simpa using c)]
    simp
theorem Fi_mono {pl : Nat → Nat} {p : Nat} : ∀ {n i : Nat}, (Fi pl i p).length ≤ (Fi pl (i + n) p).length := by
  intro n
  induction n with
  | zero => intro i; exact Nat.le_refl _
  | succ n ih =>
    intro i
    refine Nat.le_trans ih ?_
    rw [← Nat.add_assoc, Fi_succ]
    split
    · simp
    · exact Nat.le_refl _
theorem offs_mono {h : Nat → Nat} : ∀ {n p : Nat}, offs h p ≤ offs h (p + n) := by
  intro n
  induction n with
  | zero => intro p; exact Nat.le_refl _
  | succ n ih => intro p; exact Nat.le_trans ih (Nat.le_add_right _ _)
theorem offs_flat {pl : Nat → Nat} {n : Nat} : ∀ q, offs (fun p => (Fi pl n p).length) q = ((List.range q).flatMap (Fi pl n)).length := by
  intro q
  induction q with
  | zero => rfl
  | succ q ih =>
    show offs _ q + (Fi pl n q).length = _
    rw [ih, List.range_succ, List.flatMap_append, List.flatMap_singleton, List.length_append]
theorem lay3_spec {pl : Nat → Nat} {N R : Nat} (hN : N ≤ 2000) (hpl : ∀ j, j < N → pl j < R) : ∀ {k i : Nat} {m : zM}, i + k = N → (∀ j, (mMo_place m (m.1 0 j)).val = pl j) →
    (∀ p, p < R → m.2.2.1 p = offs (fun p => (Fi pl N p).length) p + (Fi pl i p).length) → (∀ p, p < R → ∀ t v, (Fi pl i p)[t]? = some v → (m.2.1 (offs (fun p => (Fi pl N p).length) p + t)).val = v) →
    laySf k i m ∧ ∀ p, p < R → ∀ t v, (Fi pl N p)[t]? = some v → ((mMo_lay3 k i m).2.1 (offs (fun p => (Fi pl N p).length) p + t)).val = v := by
  have htot : offs (fun p => (Fi pl N p).length) R = N := by
    rw [offs_flat, (flat_all pl (List.range N) R (fun x hx => hpl x (List.mem_range.mp hx))).length_eq, List.length_range]
  intro k
  induction k with
  | zero =>
    intro i m hi _ _ h
    have : i = N := by omega
    subst this
    exact ⟨trivial, h⟩
  | succ k ih =>
    intro i m hi hp hh ho
    have hiN : i < N := by omega
    have hpi := hpl i hiN
    have len1 : (Fi pl i (pl i)).length + 1 ≤ (Fi pl N (pl i)).length := by
      have e1 : (Fi pl (i + 1) (pl i)).length = (Fi pl i (pl i)).length + 1 := by rw [Fi_succ, if_pos rfl]; simp
      have := Fi_mono (pl := pl) (p := pl i) (n := k) (i := i + 1)
      rw [show i + 1 + k = N by omega] at this
      omega
    have off1 : ∀ p, p < R → offs (fun p => (Fi pl N p).length) p + (Fi pl N p).length ≤ N := fun p hpR => by
      have := offs_mono (h := fun p => (Fi pl N p).length) (p := p + 1) (n := R - (p + 1))
      rw [show p + 1 + (R - (p + 1)) = R by omega, htot] at this
      exact this
    have hpos := off1 (pl i) hpi
    have hheads : m.2.2.1 (mMo_place m (m.1 0 i)) = offs (fun p => (Fi pl N p).length) (pl i) + (Fi pl i (pl i)).length := by rw [hp i]; exact hh (pl i) hpi
    have hval : (Fin.ofNat 2000 i).val = i := Nat.mod_eq_of_lt (by omega)
    generalize hm' : yo (yh m (mMo_place m (m.1 0 i)) (m.2.2.1 (mMo_place m (m.1 0 i)) + 1)) (m.2.2.1 (mMo_place m (m.1 0 i))) (Fin.ofNat 2000 i) = m'
    have e1 : m'.1 = m.1 := by rw [← hm']; rfl
    have e2 : ∀ p, m'.2.2.1 p = if p = pl i then offs (fun p => (Fi pl N p).length) (pl i) + (Fi pl i (pl i)).length + 1 else m.2.2.1 p := fun p => by
      rw [← hm', hheads, hp i]; rfl
    have e3 : ∀ x, m'.2.1 x = if x = offs (fun p => (Fi pl N p).length) (pl i) + (Fi pl i (pl i)).length then Fin.ofNat 2000 i else m.2.1 x := fun x => by
      rw [← hm', hheads]; rfl
    obtain ⟨i1, i2⟩ := ih (i := i + 1) (m := m') (by omega) (fun j => by rw [mpl_cg e1, e1]; exact hp j) (fun p hpR => by
      rw [e2, Fi_succ]
      by_cases c : p = pl i
      · subst c
        rw [if_pos rfl, if_pos rfl, List.length_append]
        rfl
      · rw [if_neg c, if_neg (fun q => c q.symm)]
        exact hh p hpR) (fun p hpR t v hv => by
      rw [Fi_succ] at hv
      rw [e3]
      by_cases c : pl i = p
      · subst c
        rw [if_pos rfl] at hv
        rcases Nat.lt_trichotomy t (Fi pl i (pl i)).length with d | d | d
        · rw [if_neg (by omega)]
          rw [List.getElem?_append_left d] at hv
          exact ho (pl i) hpR t v hv
        · rw [d, if_pos rfl, hval]
          rw [d, List.getElem?_append_right (Nat.le_refl _), Nat.sub_self] at hv
          exact Option.some.inj hv
        · rw [List.getElem?_eq_none_iff.mpr (by rw [List.length_append]; simp; omega)] at hv
          cases hv
      · rw [if_neg c] at hv
        have ht : t < (Fi pl i p).length := by
          rcases Nat.lt_or_ge t (Fi pl i p).length with d | d
          · exact d
          · rw [List.getElem?_eq_none_iff.mpr d] at hv
            cases hv
        have hlt : t < (Fi pl N p).length := by
          have := Fi_mono (pl := pl) (p := p) (n := k + 1) (i := i)
          rw [hi] at this
          omega
        rw [if_neg]
        · exact ho p hpR t v hv
        · intro q
          rcases Nat.lt_trichotomy p (pl i) with d | d | d
          · have := offs_mono (h := fun p => (Fi pl N p).length) (p := p + 1) (n := pl i - (p + 1))
            rw [show p + 1 + (pl i - (p + 1)) = pl i by omega] at this
            have e : offs (fun p => (Fi pl N p).length) (p + 1) = offs (fun p => (Fi pl N p).length) p + (Fi pl N p).length := rfl
            omega
          · exact c d.symm
          · have := offs_mono (h := fun p => (Fi pl N p).length) (p := pl i + 1) (n := p - (pl i + 1))
            rw [show pl i + 1 + (p - (pl i + 1)) = p by omega] at this
            have e : offs (fun p => (Fi pl N p).length) (pl i + 1) = offs (fun p => (Fi pl N p).length) (pl i) + (Fi pl N (pl i)).length := rfl
            omega)
    refine ⟨⟨by rw [hheads]; omega, by rw [hm']; exact i1⟩, ?_⟩
    show ∀ p, p < R → ∀ t v, (Fi pl N p)[t]? = some v → ((mMo_lay3 k (i + 1) (yo (yh m (mMo_place m (m.1 0 i)) (m.2.2.1 (mMo_place m (m.1 0 i)) + 1)) (m.2.2.1 (mMo_place m (m.1 0 i))) (Fin.ofNat 2000 i))).2.1 _).val = v
    rw [hm']
    exact i2
theorem flat_get {pl : Nat → Nat} {n : Nat} {o : Nat → Nat} : ∀ {R : Nat}, (∀ p, p < R → ∀ t v, (Fi pl n p)[t]? = some v → o (offs (fun p => (Fi pl n p).length) p + t) = v) → ∀ k v, ((List.range R).flatMap (Fi pl n))[k]? = some v → o k = v := by
  intro R
  induction R with
  | zero => intro _ k v h; simp at h
  | succ R ih =>
    intro h k v hk
    rw [List.range_succ, List.flatMap_append, List.flatMap_singleton] at hk
    rcases Nat.lt_or_ge k ((List.range R).flatMap (Fi pl n)).length with c | c
    · rw [List.getElem?_append_left c] at hk
      exact ih (fun p hp => h p (by omega)) k v hk
    · rw [List.getElem?_append_right c, ← offs_flat] at hk
      rw [← offs_flat] at c
      have := h R (by omega) _ v hk
      rw [show offs (fun p => (Fi pl n p).length) R + (k - offs (fun p => (Fi pl n p).length) R) = k by omega] at this
      exact this
abbrev okvM (m : zM) (kv : List (Int32 × Int32)) : List (Int32 × Int32) := okv (m.1 4 1) (m.1 4 4).toNatClampNeg (fun k => (mMo_place m k).val) kv
/-- THE ORDER IS LAID AS IT IS TOLD -/
theorem lay_spec {m : zM} {kv : List (Int32 × Int32)} (h : kvl m = kv) (hl : kv.length ≤ 2000) (hr : mrok m) (hm : m.1 4 1 ≤ 0 ↔ m.1 4 1 = 0) :
    layOk m ∧ ∀ i e, (okvM m kv)[i]? = some e → (m.1 0 ((mMo_lay m).2.1 i), m.1 1 ((mMo_lay m).2.1 i)) = e := by
  have hz : m.2.2.2 = kv.length := by rw [← h, kvl_len]
  unfold mMo_lay layOk okvM okv
  by_cases c : m.1 4 1 = 0
  · have c0 : m.1 4 1 ≤ 0 := hm.mpr c
    rw [if_pos c0, if_pos c]
    have hpl : ∀ j, j < m.2.2.2 → (fun j => (mMo_place m (m.1 0 j)).val) j < (m.1 4 4).toNatClampNeg := fun j _ => mplace_lt hr
    obtain ⟨f1, f2⟩ := F0_z m
    -- the heads before the last loop
    have hF : ∀ p, p < (m.1 4 4).toNatClampNeg → (mMo_F0 m).2.2.1 p = offs (fun p => (Fi (fun j => (mMo_place m (m.1 0 j)).val) m.2.2.2 p).length) p := by
      intro p hp
      have z0 := lay0_z (m.1 4 4).toNatClampNeg 0 m
      generalize ha : mMo_lay0 (m.1 4 4).toNatClampNeg 0 m = a at *
      have ha0 : ∀ q, q < (m.1 4 4).toNatClampNeg → a.2.2.1 q = 0 := fun q hq => by rw [← ha, lay0_spec, if_pos (by omega)]
      have z1 := lay1_z a.2.2.2 0 a
      have hb1 := lay1_spec (n := a.2.2.2) (i := 0) (m := a) (pl := fun j => (mMo_place m (m.1 0 j)).val) (fun j => by rw [mpl_cg z0.1, z0.1])
      have eF : mMo_F0 m = mMo_lay2 ((mMo_lay1 a.2.2.2 0 a).1 4 4).toNatClampNeg 0 0 (mMo_lay1 a.2.2.2 0 a) := by
        unfold mMo_F0 mMo_F1 mMo_F2
        rw [ha]
      rw [eF, z1.1, z0.1]
      generalize mMo_lay1 a.2.2.2 0 a = b at *
      have := lay2_spec (h := b.2.2.1) (n := (m.1 4 4).toNatClampNeg) (p := 0) (m := b) (fun r _ => rfl) p
      rw [if_pos (by omega)] at this
      refine (show (mMo_lay2 (m.1 4 4).toNatClampNeg 0 0 b).2.2.1 p = _ from this).trans ?_
      have key : ∀ q, q ≤ (m.1 4 4).toNatClampNeg → offs b.2.2.1 q = offs (fun p => (Fi (fun j => (mMo_place m (m.1 0 j)).val) m.2.2.2 p).length) q := by
        intro q
        induction q with
        | zero => intro _; rfl
        | succ q ih =>
          intro hq
          show offs _ q + b.2.2.1 q = offs _ q + _
          rw [ih (by omega), hb1, ha0 q (by omega), Nat.zero_add, ← List.range_eq_range', z0.2]
      exact key p (by omega)
    obtain ⟨s1, s2⟩ := lay3_spec (pl := fun j => (mMo_place m (m.1 0 j)).val) (N := m.2.2.2) (R := (m.1 4 4).toNatClampNeg) (by omega) hpl (k := m.2.2.2) (i := 0) (m := mMo_F0 m) (Nat.zero_add _) (fun j => by rw [mpl_cg f1, f1]) (fun p hp => by rw [hF p hp]; rfl) (fun p _ t v hv => by simp [Fi] at hv)
    refine ⟨fun _ => by rw [f2]; exact s1, fun i e he => ?_⟩
    have eo : (List.range (m.1 4 4).toNatClampNeg).flatMap (fun p => kv.filter (fun e => decide ((mMo_place m e.1).val = p))) = ((List.range (m.1 4 4).toNatClampNeg).flatMap (Fi (fun j => (mMo_place m (m.1 0 j)).val) m.2.2.2)).map (fun i => (m.1 0 i, m.1 1 i)) := by
      rw [List.map_flatMap, ← h]
      unfold kvl
      congr 1
      funext p
      rw [List.filter_map]
      rfl
    rw [eo, List.getElem?_map] at he
    cases hv : ((List.range (m.1 4 4).toNatClampNeg).flatMap (Fi (fun j => (mMo_place m (m.1 0 j)).val) m.2.2.2))[i]? with
    | none => rw [hv] at he; cases he
    | some v =>
      rw [hv] at he
      have he : (m.1 0 v, m.1 1 v) = e := Option.some.inj he
      have g : ((mMo_lay3 m.2.2.2 0 (mMo_F0 m)).2.1 i).val = v := flat_get (o := fun x => ((mMo_lay3 m.2.2.2 0 (mMo_F0 m)).2.1 x).val) s2 i v hv
      have e3 : mMo_F3 (mMo_F0 m) = mMo_lay3 m.2.2.2 0 (mMo_F0 m) := by
        unfold mMo_F3
        rw [f2]
      rw [e3, g]
      exact he
  · have c0 : ¬ m.1 4 1 ≤ 0 := fun q => c (hm.mp q)
    rw [if_neg c0, if_neg c]
    refine ⟨fun q => absurd q c0, fun i e he => ?_⟩
    have hi : i < m.2.2.2 := by
      rcases Nat.lt_or_ge i m.2.2.2 with d | d
      · exact d
      · rw [← h, kvl_none d] at he; cases he
    rw [← h, kvl_get hi] at he
    have p1 : 0 ≤ i ∧ i < 0 + m.2.2.2 := by omega
    rw [layI_spec, if_pos p1]
    have hval : (Fin.ofNat 2000 i).val = i := Nat.mod_eq_of_lt (by omega)
    rw [hval]
    exact Option.some.inj he
