theorem get_some {α : Type} {l : List α} {i : Nat} (h : i < l.length) : l[i]? = some l[i] := List.getElem?_eq_getElem h
theorem T_at {s : zT} {m : zM} {kv : List (Int32 × Int32)} (i : Int32) (h : Rl s m kv) : layOk (y1 m 4 0 0) ∧
    (¬ i < 0 → i < s.2 4 2 → (mMo_at m i).1 = mBM_at s i ∧ (mMo_at m i).2.1 4 0 = 0 ∧ Rl s (mMo_at m i).2 kv) ∧ ((i < 0 ∨ ¬ i < s.2 4 2) → (mMo_at m i).2.1 4 0 = 1 ∧ Rl s (mMo_at m i).2 kv) := by
  have h0 := Rl_f 0 h
  obtain ⟨g1, g2, g3⟩ := Rl_lay h0
  obtain ⟨z1, z2, z3, z4⟩ := Rl_z h
  have e4 : (mMo_lay (y1 m 4 0 0)).1 4 0 = 0 := by rw [(lay_z _).1]; rfl
  unfold mMo_at
  dsimp only
  have ez : (y1 m 4 0 0).2.2.2 = m.2.2.2 := rfl
  rw [z3, ez]
  refine ⟨g1, fun c d => ?_, fun c => ?_⟩
  · rw [if_neg c, if_pos d]
    have hi : i.toNatClampNeg < (okvS s kv).length := by
      rw [Ab_okl h.1, ← z1]
      exact i32_lt_nn c (by omega) d
    refine ⟨?_, e4, g3⟩
    rw [Ab_walk h.1 c hi, ← g2 _ _ (get_some hi)]
  · by_cases c1 : i < 0
    · rw [if_pos c1]
      exact ⟨rfl, Rl_f 1 h0⟩
    · rcases c with c | c
      · exact absurd c c1
      · rw [if_neg c1, if_neg c]
        exact ⟨rfl, Rl_f 1 h0⟩
theorem hashL_ref {m : zM} {o : List (Int32 × Int32)} (h : ∀ i e, o[i]? = some e → (m.1 0 (m.2.1 i), m.1 1 (m.2.1 i)) = e) : ∀ {n i : Nat} {x : Int32}, i + n = o.length → mMo_hashL m n i x = (o.drop i).foldl hsh x := by
  intro n
  induction n with
  | zero =>
    intro i x hi
    rw [List.drop_eq_nil_of_le (by omega)]
    rfl
  | succ n ih =>
    intro i x hi
    have hl : i < o.length := by omega
    have e := h i o[i] (get_some hl)
    show mMo_hashL m n (i + 1) (31 * (31 * x + m.1 0 (m.2.1 i)) + m.1 1 (m.2.1 i)) = _
    rw [ih (by omega), ← List.getElem_cons_drop hl, List.foldl_cons, ← e]
    rfl
theorem T_hash {s : zT} {m : zM} {kv : List (Int32 × Int32)} (h : Rl s m kv) : layOk (y1 m 4 0 0) ∧ mMo_hash m = mBM_hash s ∧ Rl s (mMo_lay (y1 m 4 0 0)) kv := by
  have h0 := Rl_f 0 h
  obtain ⟨g1, g2, g3⟩ := Rl_lay h0
  obtain ⟨z1, z2, z3, z4⟩ := Rl_z h
  refine ⟨g1, ?_, g3⟩
  unfold mMo_hash
  rw [hashL_ref g2 (by rw [(lay_z _).2, Ab_okl h.1, ← z1, Nat.zero_add]; rfl), Ab_hash h.1]
  rfl
theorem Ab_keys {s : zT} {kv : List (Int32 × Int32)} (h : Ab s kv) : kv.Pairwise (fun a b => a.1 ≠ b.1) := by
  obtain ⟨ln, fr, bn, hI, rfl⟩ := h
  have hB := hI.1.2.1
  rw [List.pairwise_map]
  exact List.Pairwise.imp_of_mem (fun {x y} hx hy c e => c (hB.2.1 x hx y hy e)) hB.2.2.2.1
theorem Ab_okp {s : zT} {kv : List (Int32 × Int32)} (h : Ab s kv) : (okvS s kv).Perm kv := by
  unfold okvS okv
  split
  · exact flat_all (fun e : Int32 × Int32 => (mBi_place s e.1).val) kv _ (fun e _ => place_lt (Ab_cnt h).2.2.1)
  · exact List.Perm.refl _
theorem Ab_okk {s : zT} {kv : List (Int32 × Int32)} (h : Ab s kv) : (okvS s kv).Pairwise (fun a b => a.1 ≠ b.1) :=
  ((Ab_okp h).pairwise_iff (fun {a b} c e => c e.symm)).mpr (Ab_keys h)
theorem afL_none {m : zM} {k : Int32} : ∀ {n i : Nat}, (∀ j, i ≤ j → j < i + n → ¬ m.1 0 (m.2.1 j) = k) → mMo_afL m k n i = none := by
  intro n
  induction n with
  | zero => intro i _; rfl
  | succ n ih =>
    intro i h
    rw [mMo_afL, if_neg (h i (Nat.le_refl _) (by omega))]
    exact ih (fun j h1 h2 => h j (by omega) (by omega))
theorem afL_some {m : zM} {k : Int32} {j : Nat} (hk : m.1 0 (m.2.1 j) = k) : ∀ {n i : Nat}, i ≤ j → j < i + n → (∀ l, i ≤ l → l < j → ¬ m.1 0 (m.2.1 l) = k) → mMo_afL m k n i = some (m.1 0 (m.2.1 (j + 1))) := by
  intro n
  induction n with
  | zero => intro i h1 h2; omega
  | succ n ih =>
    intro i h1 h2 h3
    by_cases c : i = j
    · subst c
      rw [mMo_afL, if_pos hk]
    · rw [mMo_afL, if_neg (h3 i (Nat.le_refl _) (by omega))]
      exact ih (by omega) (by omega) (fun l g1 g2 => h3 l (by omega) g2)
theorem T_after {s : zT} {m : zM} {kv : List (Int32 × Int32)} (k : Int32) (h : Rl s m kv) : layOk (y1 m 4 0 0) ∧
    (¬ mBM_after s k = 0 → (mMo_after m k).1 = s.2 0 (mBM_after s k) ∧ (mMo_after m k).2.1 4 0 = 0 ∧ Rl s (mMo_after m k).2 kv) ∧ (mBM_after s k = 0 → (mMo_after m k).2.1 4 0 = 1 ∧ Rl s (mMo_after m k).2 kv) := by
  have h0 := Rl_f 0 h
  obtain ⟨g1, g2, g3⟩ := Rl_lay h0
  obtain ⟨z1, z2, z3, z4⟩ := Rl_z h
  have e4 : (mMo_lay (y1 m 4 0 0)).1 4 0 = 0 := by rw [(lay_z _).1]; rfl
  have ez : (mMo_lay (y1 m 4 0 0)).2.2.2 = kv.length := by rw [(lay_z _).2]; exact z1
  have el := Ab_okl h.1
  have ek := Ab_okk h.1
  have ep := Ab_okp h.1
  unfold mMo_after
  rw [ez]
  generalize hL : mMo_lay (y1 m 4 0 0) = L at *
  generalize ho : okvS s kv = o at *
  have gk : ∀ j (hj : j < o.length), L.1 0 (L.2.1 j) = o[j].1 := fun j hj => congrArg Prod.fst (g2 j o[j] (get_some hj))
  rcases Rl_look h.1 h.2.1 k with ⟨c1, c2, c3⟩ | ⟨k1, y, k2, e, c1, c2, c3, c4⟩
  · have ha : mBM_after s k = 0 := by
      unfold mBM_after
      rw [if_pos c2]
    have en : mMo_afL L k (kv.length - 1) 0 = none := afL_none (fun j _ hj => by
      rw [gk j (by omega)]
      exact c3 _ (ep.mem_iff.mp (List.getElem_mem _)))
    rw [en]
    exact ⟨g1, fun q => absurd ha q, fun _ => ⟨rfl, Rl_f 1 g3⟩⟩
  · have hin : (k, y) ∈ o := ep.mem_iff.mpr (by rw [e]; simp)
    obtain ⟨a1, a2, ea⟩ := List.append_of_mem hin
    obtain ⟨q1, q2⟩ := Ab_after (k := k) (y := y) (a1 := a1) (a2 := a2) h.1 (by rw [ho]; exact ea)
    have hlen : o.length = a1.length + 1 + a2.length := by rw [ea]; simp; omega
    have hkey : ∀ j, j < a1.length → ¬ L.1 0 (L.2.1 j) = k := fun j hj => by
      rw [gk j (by omega)]
      have ej : o[j]'(by omega) = a1[j] := by
        have : o[j]? = a1[j]? := by rw [ea, List.getElem?_append_left hj]
        rw [get_some (show j < o.length by omega), get_some hj] at this
        exact Option.some.inj this
      rw [ej]
      rw [ea] at ek
      exact (List.pairwise_append.mp ek).2.2 a1[j] (List.getElem_mem _) (k, y) List.mem_cons_self
    have hat : L.1 0 (L.2.1 a1.length) = k := by
      have : o[a1.length]? = some (k, y) := by rw [ea, List.getElem?_append_right (Nat.le_refl _), Nat.sub_self]; rfl
      exact congrArg Prod.fst (g2 _ _ this)
    cases ha2 : a2 with
    | nil =>
      have en : mMo_afL L k (kv.length - 1) 0 = none := afL_none (fun j _ hj => hkey j (by rw [ha2] at hlen; simp at hlen; omega))
      rw [en]
      exact ⟨g1, fun q => absurd (q1 ha2) q, fun _ => ⟨rfl, Rl_f 1 g3⟩⟩
    | cons e2 a3 =>
      have hb : L.1 0 (L.2.1 (a1.length + 1)) = e2.1 := by
        have : o[a1.length + 1]? = some e2 := by rw [ea, ha2, List.getElem?_append_right (by omega), show a1.length + 1 - a1.length = 1 by omega]; rfl
        exact congrArg Prod.fst (g2 _ _ this)
      have en := afL_some hat (n := kv.length - 1) (i := 0) (Nat.zero_le _) (by rw [ha2] at hlen; simp at hlen; omega) (fun l _ hl => hkey l hl)
      rw [en]
      obtain ⟨r1, r2⟩ := q2 e2 a3 ha2
      exact ⟨g1, fun _ => ⟨by rw [r2]; exact hb, e4, g3⟩, fun q => absurd q r1⟩
theorem T_size {s : zT} {m : zM} {kv : List (Int32 × Int32)} (h : Rl s m kv) : nI m.2.2.2 = s.2 4 2 := (Rl_z h).2.2.1.symm
