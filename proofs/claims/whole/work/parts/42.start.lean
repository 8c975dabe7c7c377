/-! A NEW ONE, AND A NEW REFERENCE -/
theorem mB0_spec : ∀ {n i : Nat} {f : Nat → zS} (x : Nat), mB0 n i f x = if i ≤ x ∧ x < i + n then Fin.ofNat 2002 (x + 1) else f x := by
  intro n
  induction n with
  | zero => intro i f x; have p : ¬ (i ≤ x ∧ x < i + 0) := by omega
            rw [if_neg p]; rfl
  | succ n ih =>
    intro i f x
    show mB0 n (i + 1) (zup f i (Fin.ofNat 2002 (i + 1))) x = _
    rw [ih]
    by_cases c : x = i
    · subst c
      have p1 : ¬ (x + 1 ≤ x ∧ x < x + 1 + n) := by omega
      have p2 : x ≤ x ∧ x < x + (n + 1) := by omega
      rw [if_neg p1, zup_eq, if_pos p2]
    · rw [zup_ne c]
      by_cases c2 : i + 1 ≤ x ∧ x < i + 1 + n
      · have p2 : i ≤ x ∧ x < i + (n + 1) := by omega
        rw [if_pos c2, if_pos p2]
      · have p2 : ¬ (i ≤ x ∧ x < i + (n + 1)) := by omega
        rw [if_neg c2, if_neg p2]
theorem ofN_val {i : Nat} (h : i < 2002) : (Fin.ofNat 2002 i).val = i := Nat.mod_eq_of_lt h
theorem s00_1 : s00.1 1 = mB0 2000 1 (fun _ => 0) := by simp only [s00]
theorem fr_sg : ∀ (n i : Nat), 1 ≤ i → i + (n + 1) = 2002 → Sg (s00.1 1) (Fin.ofNat 2002 i) ((List.range' i (n + 1)).map (Fin.ofNat 2002)) 0 := by
  intro n
  induction n with
  | zero =>
    intro i h1 h2
    have e : i = 2001 := by omega
    subst e
    refine ⟨rfl, fun q => ?_, ?_⟩
    · have := congrArg Fin.val q
      rw [ofN_val (by omega)] at this
      exact absurd this (by decide)
    · show s00.1 1 (Fin.ofNat 2002 2001).val = 0
      have p : ¬ (1 ≤ 2001 ∧ 2001 < 1 + 2000) := by omega
      rw [s00_1, ofN_val (by omega), mB0_spec, if_neg p]
  | succ n ih =>
    intro i h1 h2
    rw [List.range'_succ, List.map_cons]
    refine ⟨rfl, fun q => ?_, ?_⟩
    · have := congrArg Fin.val q
      rw [ofN_val (by omega)] at this
      have h0 : ((0 : zS) : Nat) = 0 := rfl
      omega
    · have e : s00.1 1 (Fin.ofNat 2002 i).val = Fin.ofNat 2002 (i + 1) := by
        have p : 1 ≤ i ∧ i < 1 + 2000 := by omega
        rw [s00_1, ofN_val (by omega), mB0_spec, if_pos p]
      rw [e]
      exact ih (i + 1) (by omega) (by omega)
theorem LnI_00 : LnI s00 [] ((List.range' 1 2001).map (Fin.ofNat 2002)) := by
  refine ⟨rfl, trivial, rfl, fr_sg 2000 1 (by decide) (by decide), ?_, ?_, rfl⟩
  · rw [List.nil_append]
    show List.Pairwise _ _
    rw [List.pairwise_map]
    refine List.Pairwise.imp_of_mem (fun {x y} hx hy c e => ?_) (List.pairwise_lt_range' (s := 1) (n := 2001))
    have h1 := (List.mem_range'_1.mp hx)
    have h2 := (List.mem_range'_1.mp hy)
    have := congrArg Fin.val e
    rw [ofN_val (by omega), ofN_val (by omega)] at this
    omega
  · rw [List.length_map, List.length_range']; rfl
theorem Rl_00 : Rl s00 m00 [] := by
  refine ⟨Ab_fresh LnI_00 rfl (fun _ => rfl) (fun _ => rfl) ⟨0, by decide, rfl⟩ (Or.inl rfl) (Or.inr ⟨Or.inl rfl, by decide⟩), rfl, rfl, rfl, rfl, fun _ => rfl, ⟨0, by decide, rfl⟩⟩
