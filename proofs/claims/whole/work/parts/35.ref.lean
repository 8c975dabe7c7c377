/-! THE REFERENCE BY ITS PAIRS -/
def kvl (m : zM) : List (Int32 × Int32) := (List.range m.2.2.2).map (fun i => (m.1 0 i, m.1 1 i))
theorem kvl_len (m : zM) : (kvl m).length = m.2.2.2 := by unfold kvl; rw [List.length_map, List.length_range]
theorem kvl_get {m : zM} {i : Nat} (h : i < m.2.2.2) : (kvl m)[i]? = some (m.1 0 i, m.1 1 i) := by
  unfold kvl
  rw [List.getElem?_map, List.getElem?_range h]
  rfl
theorem kvl_none {m : zM} {i : Nat} (h : m.2.2.2 ≤ i) : (kvl m)[i]? = none := by
  rw [List.getElem?_eq_none_iff, kvl_len]
  exact h
theorem kvl_4 (m : zM) (i : Nat) (v : Int32) : kvl (y1 m 4 i v) = kvl m := rfl
theorem at1L_spec {m : zM} {k : Int32} : ∀ {n i : Nat}, (mMo_at1L m k n i = none → ∀ j, i ≤ j → j < i + n → ¬ m.1 0 j = k) ∧ ∀ j, mMo_at1L m k n i = some j → m.1 0 j = k := by
  intro n
  induction n with
  | zero => intro i; exact ⟨fun _ j h1 h2 => (by omega), fun j h => (by cases h)⟩
  | succ n ih =>
    intro i
    by_cases c : m.1 0 i = k
    · rw [mMo_at1L, if_pos c]
      exact ⟨fun h => (by cases h), fun j h => (by cases h; exact c)⟩
    · rw [mMo_at1L, if_neg c]
      refine ⟨fun h j h1 h2 => ?_, fun j h => ih.2 j h⟩
      by_cases e : j = i
      · rw [e]; exact c
      · exact ih.1 h j (by omega) (by omega)
theorem ref_none {m : zM} {kv : List (Int32 × Int32)} {k : Int32} (h : kvl m = kv) (hn : mMo_at1 m k = none) : ∀ e ∈ kv, ¬ e.1 = k := by
  intro e he
  rw [← h] at he
  unfold kvl at he
  obtain ⟨i, hi, rfl⟩ := List.mem_map.mp he
  exact at1L_spec.1 hn i (Nat.zero_le _) (by have := List.mem_range.mp hi; omega)
theorem ref_some {m : zM} {kv : List (Int32 × Int32)} {k : Int32} {j : Nat} (h : kvl m = kv) (hs : mMo_at1 m k = some j) : ∃ k1 k2, kv = k1 ++ (k, m.1 1 j) :: k2 ∧ k1.length = j := by
  have hj := at1_lt hs
  have hk := at1L_spec.2 j hs
  have hl : j < kv.length := by rw [← h, kvl_len]; exact hj
  have e : kv[j] = (k, m.1 1 j) := by
    have := kvl_get hj
    rw [h, List.getElem?_eq_getElem hl, hk] at this
    exact Option.some.inj this
  refine ⟨kv.take j, kv.drop (j + 1), ?_, by rw [List.length_take]; omega⟩
  rw [← e, List.getElem_cons_drop, List.take_append_drop]
theorem y1_at {m : zM} {r i x : Nat} {v : Int32} : (y1 m r i v).1 r x = if x = i then v else m.1 r x := by
  show (bif Nat.beq r r then zup (m.1 r) i v else m.1 r) x = _
  rw [Nat.beq_refl]
  rfl
theorem y1_off {m : zM} {r i q x : Nat} {v : Int32} (h : q ≠ r) : (y1 m r i v).1 q x = m.1 q x := by
  show (bif Nat.beq q r then zup (m.1 q) i v else m.1 q) x = _
  cases c : Nat.beq q r with
  | true => exact absurd (Nat.eq_of_beq_eq_true c) h
  | false => rfl
theorem remL_spec : ∀ {n i : Nat} {m : zM} (x : Nat), (mMo_remL n i m).1 0 x = (if i ≤ x ∧ x < i + n then m.1 0 (x + 1) else m.1 0 x) ∧ (mMo_remL n i m).1 1 x = (if i ≤ x ∧ x < i + n then m.1 1 (x + 1) else m.1 1 x) := by
  intro n
  induction n with
  | zero => intro i m x; rw [if_neg (by omega), if_neg (by omega)]; exact ⟨rfl, rfl⟩
  | succ n ih =>
    intro i m x
    have e := ih (i := i + 1) (m := y1 (y1 m 0 i (m.1 0 (i + 1))) 1 i ((y1 m 0 i (m.1 0 (i + 1))).1 1 (i + 1))) x
    have a0 : ∀ x, (y1 (y1 m 0 i (m.1 0 (i + 1))) 1 i ((y1 m 0 i (m.1 0 (i + 1))).1 1 (i + 1))).1 0 x = if x = i then m.1 0 (i + 1) else m.1 0 x := fun x => by rw [y1_off (by decide), y1_at]
    have a1 : ∀ x, (y1 (y1 m 0 i (m.1 0 (i + 1))) 1 i ((y1 m 0 i (m.1 0 (i + 1))).1 1 (i + 1))).1 1 x = if x = i then m.1 1 (i + 1) else m.1 1 x := fun x => by rw [y1_at, y1_off (by decide), y1_off (by decide)]
    simp only [a0, a1] at e
    show (mMo_remL n (i + 1) _).1 0 x = _ ∧ (mMo_remL n (i + 1) _).1 1 x = _
    rw [e.1, e.2]
    by_cases c1 : x = i
    · subst c1
      have p1 : ¬ (x + 1 ≤ x ∧ x < x + 1 + n) := by omega
      have p2 : x ≤ x ∧ x < x + (n + 1) := by omega
      rw [if_neg p1, if_neg p1, if_pos p2, if_pos p2, if_pos rfl, if_pos rfl]
      exact ⟨rfl, rfl⟩
    · by_cases c2 : i + 1 ≤ x ∧ x < i + 1 + n
      · have p1 : ¬ x + 1 = i := by omega
        have p2 : i ≤ x ∧ x < i + (n + 1) := by omega
        rw [if_pos c2, if_pos c2, if_neg p1, if_neg p1, if_pos p2, if_pos p2]
        exact ⟨rfl, rfl⟩
      · have p2 : ¬ (i ≤ x ∧ x < i + (n + 1)) := by omega
        rw [if_neg c2, if_neg c2, if_neg c1, if_neg c1, if_neg p2, if_neg p2]
        exact ⟨rfl, rfl⟩
theorem ref_remove {m : zM} {k1 k2 : List (Int32 × Int32)} {e : Int32 × Int32} (h : kvl m = k1 ++ e :: k2) : kvl (mMo_remove m k1.length) = k1 ++ k2 := by
  have hl := kvl_len m
  rw [h] at hl
  simp only [List.length_append, List.length_cons] at hl
  have hz := rem_z m k1.length
  apply List.ext_getElem?
  intro i
  by_cases c : i < m.2.2.2 - 1
  · rw [kvl_get (by rw [hz]; exact c)]
    have r := remL_spec (n := m.2.2.2 - 1 - k1.length) (i := k1.length) (m := yz m (m.2.2.2 - 1)) i
    have e0 : (mMo_remove m k1.length).1 0 i = _ := r.1
    have e1 : (mMo_remove m k1.length).1 1 i = _ := r.2
    rw [e0, e1]
    by_cases c2 : i < k1.length
    · have p1 : ¬ (k1.length ≤ i ∧ i < k1.length + (m.2.2.2 - 1 - k1.length)) := by omega
      rw [if_neg p1, if_neg p1, List.getElem?_append_left c2]
      have g := kvl_get (m := m) (i := i) (by omega)
      rw [h, List.getElem?_append_left c2] at g
      exact g.symm
    · have p1 : k1.length ≤ i ∧ i < k1.length + (m.2.2.2 - 1 - k1.length) := by omega
      rw [if_pos p1, if_pos p1, List.getElem?_append_right (by omega)]
      have g := kvl_get (m := m) (i := i + 1) (by omega)
      rw [h, List.getElem?_append_right (by omega), show i + 1 - k1.length = (i - k1.length) + 1 by omega, List.getElem?_cons_succ] at g
      exact g.symm
  · rw [kvl_none (by rw [hz]; omega), List.getElem?_eq_none_iff.mpr (by rw [List.length_append]; omega)]
theorem ref_append (m : zM) (k x : Int32) : kvl (mMo_append m k x) = kvl m ++ [(k, x)] := by
  show (List.range (m.2.2.2 + 1)).map (fun i => ((mMo_append m k x).1 0 i, (mMo_append m k x).1 1 i)) = _
  have a0 : ∀ i, (mMo_append m k x).1 0 i = if i = m.2.2.2 then k else m.1 0 i := fun i => by
    show (y1 (y1 m 0 m.2.2.2 k) 1 m.2.2.2 x).1 0 i = _
    rw [y1_off (by decide), y1_at]
  have a1 : ∀ i, (mMo_append m k x).1 1 i = if i = m.2.2.2 then x else m.1 1 i := fun i => by
    show (y1 (y1 m 0 m.2.2.2 k) 1 m.2.2.2 x).1 1 i = _
    rw [y1_at, y1_off (by decide)]
  rw [List.range_succ, List.map_append, List.map_singleton, a0, a1, if_pos rfl, if_pos rfl]
  congr 1
  refine List.map_congr_left (fun i hi => ?_)
  have := List.mem_range.mp hi
  rw [a0, a1, if_neg (by omega), if_neg (by omega)]
theorem ref_set {m : zM} {k1 k2 : List (Int32 × Int32)} {k y : Int32} (x : Int32) (h : kvl m = k1 ++ (k, y) :: k2) : kvl (y1 m 1 k1.length x) = k1 ++ (k, x) :: k2 := by
  have hl := kvl_len m
  rw [h] at hl
  simp only [List.length_append, List.length_cons] at hl
  apply List.ext_getElem?
  intro i
  by_cases c : i < m.2.2.2
  · rw [kvl_get (m := y1 m 1 k1.length x) c, y1_off (by decide), y1_at]
    have g := kvl_get (m := m) c
    rw [h] at g
    rcases Nat.lt_trichotomy i k1.length with c2 | c2 | c2
    · rw [if_neg (by omega), List.getElem?_append_left c2]
      rw [List.getElem?_append_left c2] at g
      exact g.symm
    · subst c2
      rw [if_pos rfl, List.getElem?_append_right (Nat.le_refl _), Nat.sub_self]
      rw [List.getElem?_append_right (Nat.le_refl _), Nat.sub_self] at g
      have g2 : (k, y) = (m.1 0 k1.length, m.1 1 k1.length) := Option.some.inj g
      have : m.1 0 k1.length = k := (congrArg Prod.fst g2).symm
      rw [this]
      rfl
    · rw [if_neg (by omega), List.getElem?_append_right (by omega), show i - k1.length = (i - k1.length - 1) + 1 by omega, List.getElem?_cons_succ]
      rw [List.getElem?_append_right (by omega), show i - k1.length = (i - k1.length - 1) + 1 by omega, List.getElem?_cons_succ] at g
      exact g.symm
  · rw [kvl_none (show (y1 m 1 k1.length x).2.2.2 ≤ i by show m.2.2.2 ≤ i; omega), List.getElem?_eq_none_iff.mpr (by simp; omega)]
/-- the words beside the rows -/
def mK (m m' : zM) : Prop := ∀ i, m'.1 4 i = m.1 4 i
theorem mK_rem (m : zM) (j : Nat) : mK m (mMo_remove m j) := fun i => by
  unfold mMo_remove
  rw [(remL_z _ _ _).2 4 (by decide) (by decide)]
  rfl
theorem mK_app (m : zM) (k x : Int32) : mK m (mMo_append m k x) := fun _ => rfl
theorem mK.tr {a b c : zM} (h : mK a b) (k : mK b c) : mK a c := fun i => (k i).trans (h i)
theorem ref_touch {m : zM} {k1 k2 : List (Int32 × Int32)} {k y : Int32} (h : kvl m = k1 ++ (k, y) :: k2) : kvl (mMo_touch m k1.length) = (k1 ++ k2) ++ [(k, y)] ∧ mK m (mMo_touch m k1.length) := by
  have hl := kvl_len m
  rw [h] at hl
  simp only [List.length_append, List.length_cons] at hl
  have g := kvl_get (m := m) (i := k1.length) (by omega)
  rw [h, List.getElem?_append_right (Nat.le_refl _), Nat.sub_self] at g
  have g2 : (k, y) = (m.1 0 k1.length, m.1 1 k1.length) := Option.some.inj g
  refine ⟨?_, (mK_rem m _).tr (mK_app _ _ _)⟩
  unfold mMo_touch
  rw [ref_append, ref_remove h, ← g2]
theorem ref_ent_some {m : zM} {k1 k2 : List (Int32 × Int32)} {k y x : Int32} (h : kvl m = k1 ++ (k, y) :: k2) (hs : mMo_at1 m k = some k1.length) : kvl (mMo_enter m k x) = (if m.1 4 1 = 2 then (k1 ++ k2) ++ [(k, x)] else k1 ++ (k, x) :: k2) ∧ mK m (mMo_enter m k x) := by
  unfold mMo_enter
  rw [hs]
  show kvl (mMo_ent0 m k1.length x) = _ ∧ mK m (mMo_ent0 m k1.length x)
  unfold mMo_ent0
  have e : (y1 m 1 k1.length x).1 4 1 = m.1 4 1 := rfl
  rw [e]
  by_cases c : m.1 4 1 = 2
  · rw [if_pos c, if_pos c]
    exact ref_touch (ref_set x h)
  · rw [if_neg c, if_neg c]
    exact ⟨ref_set x h, fun _ => rfl⟩
theorem ref_ent_none {m : zM} {kv : List (Int32 × Int32)} {k x : Int32} (h : kvl m = kv) (hs : mMo_at1 m k = none) :
    kvl (mMo_enter m k x) = (if m.1 4 1 = 2 ∧ nI kv.length = m.1 4 3 then kv.tail ++ [(k, x)] else kv ++ [(k, x)]) ∧ (∀ i, i ≠ 4 → (mMo_enter m k x).1 4 i = m.1 4 i) ∧
    (mMo_enter m k x).1 4 4 = (if m.1 4 1 = 0 then (if 4 * nI (kv.length + 1) ≤ 3 * m.1 4 4 then m.1 4 4 else m.1 4 4 * 2) else m.1 4 4) := by
  have hz : m.2.2.2 = kv.length := by rw [← h, kvl_len]
  have e2 : ∀ m1 : zM, mK m m1 → kvl (mMo_ent2 m1 k x) = kvl m1 ++ [(k, x)] ∧ (∀ i, i ≠ 4 → (mMo_ent2 m1 k x).1 4 i = m.1 4 i) ∧ (mMo_ent2 m1 k x).1 4 4 = (if m.1 4 1 = 0 then (if 4 * nI (m1.2.2.2 + 1) ≤ 3 * m.1 4 4 then m.1 4 4 else m.1 4 4 * 2) else m.1 4 4) := by
    intro m1 hk
    unfold mMo_ent2
    dsimp only
    have ka : ∀ i, (mMo_append m1 k x).1 4 i = m.1 4 i := fun i => hk i
    have sz : (mMo_append m1 k x).2.2.2 = m1.2.2.2 + 1 := rfl
    rw [ka 1, ka 4, sz]
    by_cases c : m.1 4 1 = 0
    · rw [if_pos c, if_pos c]
      by_cases d : 4 * nI (m1.2.2.2 + 1) ≤ 3 * m.1 4 4
      · rw [if_pos d, if_pos d]
        exact ⟨ref_append m1 k x, fun i _ => ka i, ka 4⟩
      · rw [if_neg d, if_neg d]
        exact ⟨ref_append m1 k x, fun i hi => by rw [y1_at, if_neg hi]; exact ka i, by rw [y1_at, if_pos rfl]⟩
    · rw [if_neg c, if_neg c]
      exact ⟨ref_append m1 k x, fun i _ => ka i, ka 4⟩
  unfold mMo_enter
  rw [hs]
  show kvl (mMo_ent1 m k x) = _ ∧ (∀ i, i ≠ 4 → (mMo_ent1 m k x).1 4 i = m.1 4 i) ∧ (mMo_ent1 m k x).1 4 4 = _
  unfold mMo_ent1
  by_cases c : m.1 4 1 = 2
  · have c0 : ¬ m.1 4 1 = 0 := fun q => by rw [q] at c; exact absurd c (by decide)
    rw [if_pos c]
    by_cases d : nI m.2.2.2 = m.1 4 3
    · rw [if_pos d, if_pos ⟨c, by rw [← hz]; exact d⟩]
      obtain ⟨g1, g2, g3⟩ := e2 (mMo_remove m 0) (mK_rem m 0)
      rw [if_neg c0] at g3 ⊢
      refine ⟨?_, g2, g3⟩
      rw [g1]
      cases hkv : kv with
      | nil =>
        have : (mMo_remove m 0).2.2.2 = 0 := by rw [rem_z, hz, hkv]; rfl
        congr 1
        exact List.eq_nil_of_length_eq_zero (by rw [kvl_len, this])
      | cons e ks =>
        rw [hkv] at h
        have := ref_remove (m := m) (k1 := []) (e := e) (k2 := ks) h
        rw [show ([] : List (Int32 × Int32)).length = 0 from rfl] at this
        rw [this]
        rfl
    · rw [if_neg d, if_neg (fun q => d (by rw [hz]; exact q.2))]
      obtain ⟨g1, g2, g3⟩ := e2 m (fun _ => rfl)
      rw [if_neg c0] at g3 ⊢
      exact ⟨by rw [g1, h], g2, g3⟩
  · rw [if_neg c, if_neg (fun q => c q.1)]
    obtain ⟨g1, g2, g3⟩ := e2 m (fun _ => rfl)
    rw [hz] at g3
    exact ⟨by rw [g1, h], g2, g3⟩
