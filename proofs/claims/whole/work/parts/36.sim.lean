/-! CLASS AND REFERENCE SIDE BY SIDE -/
def Rl (s : zT) (m : zM) (kv : List (Int32 × Int32)) : Prop := Ab s kv ∧ kvl m = kv ∧ m.1 4 1 = s.2 4 0 ∧ m.1 4 2 = s.2 4 4 ∧ m.1 4 3 = s.2 4 1 ∧ (s.2 4 0 = 0 → m.1 4 4 = s.2 4 3) ∧ mrok m
theorem Rl_f {s : zT} {m : zM} {kv : List (Int32 × Int32)} (v : Int32) (h : Rl s m kv) : Rl s (y1 m 4 0 v) kv := h
theorem Rl_z {s : zT} {m : zM} {kv : List (Int32 × Int32)} (h : Rl s m kv) : m.2.2.2 = kv.length ∧ kv.length ≤ 2000 ∧ s.2 4 2 = nI m.2.2.2 ∧ m.2.2.2 ≤ 2000 := by
  have e : m.2.2.2 = kv.length := by rw [← h.2.1, kvl_len]
  have c := Ab_cnt h.1
  exact ⟨e, c.2.1, by rw [e]; exact c.1, by rw [e]; exact c.2.1⟩
theorem Rl_cg {s : zT} {m m' : zM} {kv : List (Int32 × Int32)} (h : Rl s m kv) (h1 : m'.1 = m.1) (h2 : m'.2.2.2 = m.2.2.2) : Rl s m' kv := by
  obtain ⟨a, b, c, d, e, f, g⟩ := h
  refine ⟨a, ?_, by rw [h1]; exact c, by rw [h1]; exact d, by rw [h1]; exact e, fun q => by rw [h1]; exact f q, ?_⟩
  · rw [← b]
    unfold kvl
    rw [h1, h2]
  · unfold mrok
    rw [h1]
    exact g
theorem Rl_look {s : zT} {m : zM} {kv : List (Int32 × Int32)} (h : Ab s kv) (hm : kvl m = kv) (k : Int32) :
    (mMo_at1 m k = none ∧ mBi_find s k = 0 ∧ ∀ e ∈ kv, ¬ e.1 = k) ∨ ∃ (k1 : List (Int32 × Int32)) (y : Int32) (k2 : List (Int32 × Int32)), kv = k1 ++ (k, y) :: k2 ∧ mMo_at1 m k = some k1.length ∧ mBi_find s k ≠ 0 ∧ s.2 3 (mBi_find s k) = y ∧ m.1 1 k1.length = y := by
  cases hc : mMo_at1 m k with
  | none =>
    have hn := ref_none hm hc
    exact Or.inl ⟨rfl, Ab_none h hn, hn⟩
  | some j =>
    obtain ⟨k1, k2, e, ej⟩ := ref_some hm hc
    subst ej
    rw [e] at h
    obtain ⟨l1, l2, fr, bn, -, -, -, ea, a0, -, -⟩ := Ab_at h
    exact Or.inr ⟨k1, m.1 1 k1.length, k2, e, rfl, a0, congrArg Prod.snd ea, rfl⟩
theorem tight_eq {s : zT} {n : Nat} (hr : rok s) (hn : n ≤ 2001) : (if 4 * nI n ≤ 3 * s.2 4 3 then s.2 4 3 else s.2 4 3 * 2) = (if mBi_tight s (nI n) = true then s.2 4 3 * 2 else s.2 4 3) := by
  obtain ⟨e, he, hs⟩ := hr
  have hp := p2e he
  unfold mBi_tight
  rw [Int32.mul_comm (nI n) 4, Int32.mul_comm (s.2 4 3) 3]
  by_cases c : 4 * nI n ≤ 3 * s.2 4 3
  · rw [if_pos c, decide_eq_true c, if_neg (by simp)]
  · have d : ¬ (4096 : Int32) ≤ s.2 4 3 := fun q => by
      rw [hs] at q c
      have q := (nI_leI (a := 4096) (by decide) (by omega)).mp q
      refine c ?_
      show nI 4 * nI n ≤ nI 3 * nI (2 ^ (e + 4))
      rw [pk_mul, pk_mul]
      exact (nI_leI (by omega) (by omega)).mpr (by omega)
    rw [if_neg c, decide_eq_false c, decide_eq_false d, if_pos (by decide)]
theorem mrok_of {m : zM} {s : zT} (h : m.1 4 4 = s.2 4 3) (hr : rok s) : mrok m := by
  obtain ⟨e, he, hs⟩ := hr
  exact ⟨e, he, h.trans hs⟩
theorem mrok_cg {m m' : zM} (h : m'.1 4 4 = m.1 4 4) (hr : mrok m) : mrok m' := by
  obtain ⟨e, he, hs⟩ := hr
  exact ⟨e, he, h.trans hs⟩
theorem Rl_come {s : zT} {m : zM} {kv : List (Int32 × Int32)} {k x : Int32} (h : Rl s m kv) (hn : mMo_at1 m k = none) (hk : ∀ e ∈ kv, ¬ e.1 = k) (hf : s.2 4 0 = 2 ∨ kv.length < 2000) : (∃ kv', Rl (mBM_come s k x) (mMo_enter m k x) kv') ∧ (mMo_enter m k x).1 4 0 = m.1 4 0 := by
  obtain ⟨hA, hm, m1, m2, m3, m4, hr⟩ := h
  obtain ⟨a1, ⟨a2, a3, a4⟩, a5⟩ := Ab_come (x := x) hA hk hf
  obtain ⟨b1, b2, b3⟩ := ref_ent_none (x := x) hm hn
  have ro := (Ab_cnt hA).2.2.1
  have hl := (Ab_cnt hA).2.1
  have e44 : s.2 4 0 = 0 → (mMo_enter m k x).1 4 4 = (mBM_come s k x).2 4 3 := fun c => by
    rw [b3, m1, if_pos c, m4 c, a5 c]
    exact tight_eq ro (by omega)
  refine ⟨⟨_, a1, ?_, ?_, ?_, ?_, ?_, ?_⟩, b2 0 (by decide)⟩
  · rw [b1, m1, m3]
    by_cases c : s.2 4 0 = 2 ∧ s.2 4 1 = nI kv.length
    · rw [if_pos c, if_pos ⟨c.1, c.2.symm⟩]
    · rw [if_neg c, if_neg (fun q => c ⟨q.1, q.2.symm⟩)]
  · rw [b2 1 (by decide), a2]; exact m1
  · rw [b2 2 (by decide), a4]; exact m2
  · rw [b2 3 (by decide), a3]; exact m3
  · rw [a2]
    exact e44
  · by_cases c : s.2 4 0 = 0
    · exact mrok_of (e44 c) (rok_come ro)
    · refine mrok_cg ?_ hr
      rw [b3, m1, if_neg c]
theorem Rl_change {s : zT} {m : zM} {k1 k2 : List (Int32 × Int32)} {k y x : Int32} (h : Rl s m (k1 ++ (k, y) :: k2)) (hn : mMo_at1 m k = some k1.length) : (∃ kv', Rl (mBM_change s (mBi_find s k) x) (mMo_enter m k x) kv') ∧ (mMo_enter m k x).1 4 0 = m.1 4 0 := by
  obtain ⟨hA, hm, m1, m2, m3, m4, hr⟩ := h
  obtain ⟨a1, ⟨a2, a3, a4⟩, a5⟩ := Ab_change x hA
  obtain ⟨b1, b2⟩ := ref_ent_some (x := x) hm hn
  refine ⟨⟨_, a1, by rw [b1, m1], ?_, ?_, ?_, ?_, mrok_cg (b2 4) hr⟩, b2 0⟩
  · rw [b2 1, a2]; exact m1
  · rw [b2 2, a4]; exact m2
  · rw [b2 3, a3]; exact m3
  · rw [a2, a5, b2 4]; exact m4
theorem mode2 {x : Int32} (h : x = 2 ∨ (x = 0 ∨ x = 1)) : decide (2 ≤ x) = decide (x = 2) := by
  rcases h with rfl | rfl | rfl <;> decide
theorem fits_full {s : zT} {m : zM} {kv : List (Int32 × Int32)} {k : Int32} (h : Rl s m kv) : mMo_full m k = !mBM_fits s (mBi_find s k) := by
  obtain ⟨z1, z2, z3, z4⟩ := Rl_z h
  unfold mMo_full mBM_fits
  have hmd : s.2 4 0 = 2 ∨ (s.2 4 0 = 0 ∨ s.2 4 0 = 1) := by
    rcases Ab_mode h.1 with q | q
    · exact Or.inl q.1
    · exact Or.inr q
  have ec : decide (nI m.2.2.2 = 2000) = decide ((2000 : Int32) ≤ s.2 4 2) := by
    rw [z3]
    rcases Nat.lt_or_ge m.2.2.2 2000 with c | c
    · rw [decide_eq_false (fun q => by have := (nI_eq (b := 2000) (by omega) (by decide)).mp q; omega), decide_eq_false (fun q => by have := (nI_leI (a := 2000) (by decide) (by omega)).mp q; omega)]
    · have : m.2.2.2 = 2000 := by omega
      rw [this]; decide
  rw [h.2.2.1, mode2 hmd, ec]
  rcases Rl_look h.1 h.2.1 k with ⟨c1, c2, -⟩ | ⟨k1, y, k2, -, c1, c2, -⟩
  · rw [c1, c2]
    cases decide (s.2 4 0 = 2) <;> cases decide ((2000 : Int32) ≤ s.2 4 2) <;> rfl
  · rw [c1, decide_eq_false c2]
    cases decide (s.2 4 0 = 2) <;> cases decide ((2000 : Int32) ≤ s.2 4 2) <;> rfl
theorem ent_ok {s : zT} {m : zM} {kv : List (Int32 × Int32)} {k : Int32} (h : Rl s m kv) (hf : mMo_full m k = false) : entOk m k := by
  obtain ⟨z1, z2, z3, z4⟩ := Rl_z h
  intro hn
  rw [h.2.2.1, h.2.2.2.2.1]
  rcases Ab_mode h.1 with ⟨q, M, M1, M2, em, hM⟩ | q
  · rw [em]
    by_cases c : nI m.2.2.2 = nI M
    · rw [if_pos ⟨q, c⟩]
      have := (nI_eq (by omega) (by omega)).mp c
      omega
    · rw [if_neg (fun w => c w.2)]
      have : m.2.2.2 ≠ M := fun e => c (by rw [e])
      omega
  · have n2 : ¬ s.2 4 0 = 2 := fun w => by rcases q with c | c <;> (rw [w] at c; exact absurd c (by decide))
    rw [if_neg (fun w => n2 w.1)]
    unfold mMo_full at hf
    rw [h.2.2.1, mode2 (Or.inr q), decide_eq_false n2, hn] at hf
    have : ¬ nI m.2.2.2 = 2000 := fun e => by
      rw [decide_eq_true e] at hf
      cases hf
    have : m.2.2.2 ≠ 2000 := fun e => this (by rw [e]; rfl)
    omega
theorem fits_room {s : zT} {kv : List (Int32 × Int32)} (h : Ab s kv) (hf : mBM_fits s 0 = true) : s.2 4 0 = 2 ∨ kv.length < 2000 := by
  by_cases c : s.2 4 0 = 2
  · exact Or.inl c
  · unfold mBM_fits at hf
    rw [decide_eq_false c] at hf
    refine Or.inr ?_
    obtain ⟨c1, c2, -, -⟩ := Ab_cnt h
    rcases Nat.lt_or_ge kv.length 2000 with d | d
    · exact d
    · have : kv.length = 2000 := by omega
      rw [c1, this] at hf
      exact absurd hf (by decide)
/-- put and the reference's put -/
theorem T_put {s : zT} {m : zM} {kv : List (Int32 × Int32)} (k x : Int32) (h : Rl s m kv) :
    (mBM_fits s (mBi_find s k) = true → (mMo_put m k x).1 = (mBM_put s k x).1 ∧ (mMo_put m k x).2.1 4 0 = 0 ∧ ∃ kv', Rl (mBM_put s k x).2 (mMo_put m k x).2 kv') ∧
    (mBM_fits s (mBi_find s k) = false → (mMo_put m k x).2.1 4 0 = 1 ∧ Rl s (mMo_put m k x).2 kv) ∧ (mMo_full (y1 m 4 0 0) k = false → entOk (y1 m 4 0 0) k) := by
  have h0 := Rl_f 0 h
  have ff := fits_full (k := k) h0
  refine ⟨fun hf => ?_, fun hf => ?_, fun q => ent_ok h0 q⟩
  · rw [hf] at ff
    unfold mMo_put mBM_put
    simp only [ff]
    rcases Rl_look h0.1 h0.2.1 k with ⟨c1, c2, c3⟩ | ⟨k1, y, k2, e, c1, c2, c3, c4⟩
    · rw [c2] at hf
      obtain ⟨⟨kv', g⟩, g2⟩ := Rl_come (x := x) h0 c1 c3 (fits_room h.1 hf)
      rw [c1, if_pos c2]
      exact ⟨rfl, g2, kv', g⟩
    · rw [e] at h0
      obtain ⟨⟨kv', g⟩, g2⟩ := Rl_change (x := x) h0 c1
      rw [c1, if_neg c2]
      refine ⟨?_, g2, kv', g⟩
      show ((y1 m 4 0 0).1 1 k1.length).toInt64 = (s.2 3 (mBi_find s k)).toInt64
      rw [c3, c4]
  · rw [hf] at ff
    unfold mMo_put
    simp only [ff]
    exact ⟨rfl, Rl_f 1 h0⟩
theorem T_find {s : zT} {m : zM} {kv : List (Int32 × Int32)} (k : Int32) (t : Bool) (h : Rl s m kv) :
    (¬ mBi_find s k = 0 → (mMo_find m k t).1 = (mBM_find s k t).1 ∧ (mMo_find m k t).2.1 4 0 = 0 ∧ ∃ kv', Rl (mBM_find s k t).2 (mMo_find m k t).2 kv') ∧
    (mBi_find s k = 0 → (mMo_find m k t).2.1 4 0 = 1 ∧ Rl s (mMo_find m k t).2 kv) := by
  have h0 := Rl_f 0 h
  unfold mMo_find mBM_find
  dsimp only
  rcases Rl_look h0.1 h0.2.1 k with ⟨c1, c2, c3⟩ | ⟨k1, y, k2, e, c1, c2, c3, c4⟩
  · rw [c1]
    exact ⟨fun q => absurd c2 q, fun _ => ⟨rfl, Rl_f 1 h0⟩⟩
  · rw [c1]
    refine ⟨fun _ => ⟨c4.trans c3.symm, ?_⟩, fun q => absurd q c2⟩
    rw [e] at h0
    obtain ⟨hA, hm, m1, m2, m3, m4, hr⟩ := h0
    cases t with
    | true =>
      simp only [↓reduceIte]
      have b := mK_rem (y1 m 4 0 0) k1.length
      obtain ⟨a1, ⟨a2, a3, a4⟩, a5⟩ := Ab_go hA
      refine ⟨(b 0).trans rfl, _, a1, ref_remove hm, ?_, ?_, ?_, ?_, mrok_cg (b 4) hr⟩
      · rw [b 1, a2]; exact m1
      · rw [b 2, a4]; exact m2
      · rw [b 3, a3]; exact m3
      · rw [a2, a5, b 4]; exact m4
    | false =>
      simp only [Bool.false_eq_true, ↓reduceIte]
      obtain ⟨a1, ⟨a2, a3, a4⟩, a5⟩ := Ab_touch hA
      rw [m1]
      by_cases c : s.2 4 0 = 2
      · obtain ⟨b1, b⟩ := ref_touch hm
        rw [if_pos c] at a1 ⊢
        refine ⟨(b 0).trans rfl, _, a1, b1, ?_, ?_, ?_, ?_, mrok_cg (b 4) hr⟩
        · rw [b 1, a2]; exact m1
        · rw [b 2, a4]; exact m2
        · rw [b 3, a3]; exact m3
        · rw [a2, a5, b 4]; exact m4
      · rw [if_neg c] at a1 ⊢
        refine ⟨rfl, _, a1, hm, ?_, ?_, ?_, ?_, hr⟩
        · rw [a2]; exact m1
        · rw [a4]; exact m2
        · rw [a3]; exact m3
        · rw [a2, a5]; exact m4
theorem T_has {s : zT} {m : zM} {kv : List (Int32 × Int32)} (k : Int32) (h : Rl s m kv) : (mMo_at1 (y1 m 4 0 0) k).isSome = !decide (mBi_find s k = 0) := by
  have h0 := Rl_f 0 h
  rcases Rl_look h0.1 h0.2.1 k with ⟨c1, c2, c3⟩ | ⟨k1, y, k2, e, c1, c2, c3, c4⟩
  · rw [c1, c2]; rfl
  · rw [c1, decide_eq_false c2]; rfl
theorem fill_key (x step : Int32) (i : Nat) : x + nI (i + 1) * step = x + nI i * step + step := by
  rw [nI_succ, Int32.add_mul, Int32.one_mul, Int32.add_assoc]
theorem sim_fill {x step : Int32} : ∀ {n i : Nat} {s : zT} {m : zM} {kv : List (Int32 × Int32)}, Rl s m kv → fillOk x step n i m ∧ (∃ kv', Rl (mBM_fillL step n i (x + nI i * step) s) (mMo_fillL x step n i m) kv') ∧ (mMo_fillL x step n i m).1 4 0 = m.1 4 0 := by
  intro n
  induction n with
  | zero => intro i s m kv h; exact ⟨(Rl_z h).2.2.2, ⟨kv, h⟩, rfl⟩
  | succ n ih =>
    intro i s m kv h
    have ff := fits_full (k := x + nI i * step) h
    have key : mBM_fits s (mBi_find s (x + nI i * step)) = true → (∃ kv', Rl (if mBi_find s (x + nI i * step) = 0 then mBM_come s (x + nI i * step) (nI i) else mBM_change s (mBi_find s (x + nI i * step)) (nI i)) (mMo_enter m (x + nI i * step) (nI i)) kv') ∧ (mMo_enter m (x + nI i * step) (nI i)).1 4 0 = m.1 4 0 := by
      intro hf
      rcases Rl_look h.1 h.2.1 (x + nI i * step) with ⟨c1, c2, c3⟩ | ⟨k1, y, k2, e, c1, c2, c3, c4⟩
      · rw [c2] at hf
        rw [if_pos c2]
        exact Rl_come h c1 c3 (fits_room h.1 hf)
      · rw [if_neg c2]
        rw [e] at h
        exact Rl_change h c1
    cases hf : mBM_fits s (mBi_find s (x + nI i * step)) with
    | false =>
      rw [hf] at ff
      have ff : mMo_full m (x + nI i * step) = true := ff
      refine ⟨⟨(Rl_z h).2.2.2, fun q => by rw [ff] at q; cases q⟩, ⟨kv, ?_⟩, ?_⟩
      · rw [mBM_fillL, mMo_fillL]
        simp only [hf, ff]
        exact h
      · rw [mMo_fillL]
        simp only [ff, if_true]
    | true =>
      rw [hf] at ff
      have ff : mMo_full m (x + nI i * step) = false := ff
      obtain ⟨⟨kv1, h1⟩, h2⟩ := key hf
      obtain ⟨i1, i2, i3⟩ := ih (i := i + 1) h1
      refine ⟨⟨(Rl_z h).2.2.2, fun _ => ⟨ent_ok h ff, i1⟩⟩, ?_, ?_⟩
      · rw [mBM_fillL, mMo_fillL]
        simp only [hf, ff, if_true, Bool.false_eq_true, if_false]
        rw [fill_key] at i2
        by_cases c : mBi_find s (x + nI i * step) = 0
        · rw [if_pos c] at i2 ⊢
          exact i2
        · rw [if_neg c] at i2 ⊢
          exact i2
      · rw [mMo_fillL]
        simp only [ff, Bool.false_eq_true, if_false]
        exact i3.trans h2
theorem T_fill {s : zT} {m : zM} {kv : List (Int32 × Int32)} (x step nn : Int32) (h : Rl s m kv) : fillOk x step nn.toNatClampNeg 0 (y1 m 4 0 0) ∧
    (¬ nn < 0 → nn ≤ 2000 → (mMo_fill m x step nn).1 = (mBM_fillL step nn.toNatClampNeg 0 x s).2 4 2 ∧ (mMo_fill m x step nn).2.1 4 0 = 0 ∧ ∃ kv', Rl (mBM_fillL step nn.toNatClampNeg 0 x s) (mMo_fill m x step nn).2 kv') ∧
    ((nn < 0 ∨ ¬ nn ≤ 2000) → (mMo_fill m x step nn).2.1 4 0 = 1 ∧ Rl s (mMo_fill m x step nn).2 kv) := by
  have h0 := Rl_f 0 h
  obtain ⟨i1, ⟨kv', i2⟩, i3⟩ := sim_fill (x := x) (step := step) (n := nn.toNatClampNeg) (i := 0) h0
  have e : x + nI 0 * step = x := by
    rw [nI_0, Int32.zero_mul, Int32.add_zero]
  rw [e] at i2
  unfold mMo_fill
  dsimp only
  refine ⟨i1, fun c d => ?_, fun c => ?_⟩
  · rw [if_neg c, if_pos d]
    exact ⟨(Rl_z i2).2.2.1.symm, i3, kv', i2⟩
  · by_cases c1 : nn < 0
    · rw [if_pos c1]
      exact ⟨rfl, Rl_f 1 h0⟩
    · rcases c with c | c
      · exact absurd c c1
      · rw [if_neg c1, if_neg c]
        exact ⟨rfl, Rl_f 1 h0⟩
theorem okMode_eq (mode f most : Int32) : mMo_okMode mode f most = true ↔ mBM_isMode mode most = true ∧ ¬ f < 0 ∧ f ≤ 2 := by
  have l2 : ¬ (2 : Int32) < f ↔ f ≤ 2 := Int32.not_lt
  have l3 : ¬ (2000 : Int32) < most ↔ most ≤ 2000 := Int32.not_lt
  unfold mMo_okMode mBM_isMode
  by_cases c : mode = 2
  · subst c
    simp only [if_true, Bool.and_eq_true, Bool.not_eq_true', decide_eq_false_iff_not, decide_eq_true_eq, l2, l3]
    constructor
    · rintro ⟨-, -, a, b, c, d⟩; exact ⟨⟨c, d⟩, a, b⟩
    · rintro ⟨⟨c, d⟩, a, b⟩; exact ⟨by decide, by decide, a, b, c, d⟩
  · have l4 : ¬ (2 : Int32) < mode ↔ ¬ (2 : Int32) ≤ mode := ⟨fun q w => q (i32_lt_of w (fun e => c e.symm)), fun q w => q (Int32.le_of_lt w)⟩
    simp only [if_neg c, Bool.and_eq_true, Bool.not_eq_true', decide_eq_false_iff_not, decide_eq_true_eq, l2, l4]
    constructor
    · rintro ⟨a, b, d, e, f⟩; exact ⟨⟨a, b, f⟩, d, e⟩
    · rintro ⟨⟨a, b, f⟩, d, e⟩; exact ⟨a, b, d, e, f⟩
theorem T_make {s : zT} {m : zM} {kv : List (Int32 × Int32)} (mode f most : Int32) (h : Rl s m kv) :
    (mBM_isMode mode most = true → ¬ f < 0 → f ≤ 2 → (mMo_make m mode f most).1 = s.2 4 2 ∧ (mMo_make m mode f most).2.1 4 0 = 0 ∧ Rl (mBM_make s mode f most) (mMo_make m mode f most).2 []) ∧
    ((mBM_isMode mode most = false ∨ f < 0 ∨ ¬ f ≤ 2) → (mMo_make m mode f most).2.1 4 0 = 1 ∧ Rl s (mMo_make m mode f most).2 kv) := by
  unfold mMo_make
  dsimp only
  refine ⟨fun a b c => ?_, fun q => ?_⟩
  · rw [if_pos ((okMode_eq mode f most).mpr ⟨a, b, c⟩)]
    obtain ⟨g1, g2, g3, g4, g5⟩ := Ab_make h.1 a b c
    exact ⟨(Rl_z h).2.2.1.symm, rfl, g1, rfl, g2.symm, g4.symm, g3.symm, fun _ => g5.symm, ⟨0, by decide, rfl⟩⟩
  · have : ¬ mMo_okMode mode f most = true := fun w => by
      obtain ⟨a, b, c⟩ := (okMode_eq mode f most).mp w
      rcases q with q | q | q
      · rw [a] at q; cases q
      · exact b q
      · exact q c
    rw [if_neg this]
    exact ⟨rfl, Rl_f 1 (Rl_f 0 h)⟩
theorem T_clear {s : zT} {m : zM} {kv : List (Int32 × Int32)} (h : Rl s m kv) : Rl (mBi_drain (mLn_drain s)) (yz (y1 m 4 0 0) 0) [] := by
  obtain ⟨hA, hm, m1, m2, m3, m4, hr⟩ := h
  obtain ⟨a1, ⟨a2, a3, a4⟩, a5⟩ := Ab_clear hA
  exact ⟨a1, rfl, m1.trans a2.symm, m2.trans a4.symm, m3.trans a3.symm, fun q => (m4 (a2 ▸ q)).trans a5.symm, hr⟩
theorem T_wrong {s : zT} {m : zM} {kv : List (Int32 × Int32)} (h : Rl s m kv) : (mBM_wrong s).1 = 0 ∧ Rl (mBM_wrong s).2 (y1 m 4 0 0) kv := by
  obtain ⟨hA, hm, m1, m2, m3, m4, hr⟩ := h
  obtain ⟨a0, a1, ⟨a2, a3, a4⟩, a5⟩ := Ab_wrong hA
  exact ⟨a0, a1, hm, m1.trans a2.symm, m2.trans a4.symm, m3.trans a3.symm, fun q => (m4 (a2 ▸ q)).trans a5.symm, hr⟩
/-! the order of both -/
theorem place_same {s : zT} {m : zM} (hf : m.1 4 2 = s.2 4 4) (hr : m.1 4 4 = s.2 4 3) (hF : FN s) (k : Int32) : mMo_place m k = mBi_place s k := by
  unfold mMo_place mBi_place
  have e : mMo_code m k = mBi_code s k := by
    unfold mMo_code mBi_code
    rw [hf]
    have n01 : ¬ (0 : Int32) = 1 := by decide
    have n02 : ¬ (0 : Int32) = 2 := by decide
    have n10 : ¬ (1 : Int32) = 0 := by decide
    have n20 : ¬ (2 : Int32) = 0 := by decide
    have n21 : ¬ (2 : Int32) = 1 := by decide
    rcases hF with q | q | q
    · rw [q, if_pos rfl, if_neg n01, if_neg n02]
    · rw [q, if_neg n10, if_pos rfl, if_pos rfl]
    · rw [q, if_neg n20, if_neg n21, if_neg n21, if_pos rfl]
  simp only [e, hr]
theorem ok_same {s : zT} {m : zM} {kv : List (Int32 × Int32)} (h : Rl s m kv) : okvM m kv = okvS s kv := by
  obtain ⟨hA, hm, m1, m2, m3, m4, hr⟩ := h
  unfold okvM okvS okv
  rw [m1]
  by_cases c : s.2 4 0 = 0
  · rw [if_pos c, if_pos c, m4 c]
    have e : (fun k => (mMo_place m k).val) = (fun k => (mBi_place s k).val) := by
      funext k
      rw [place_same m2 (m4 c) (Ab_cnt hA).2.2.2]
    rw [e]
  · rw [if_neg c, if_neg c]
theorem Rl_lay {s : zT} {m : zM} {kv : List (Int32 × Int32)} (h : Rl s m kv) : layOk m ∧ (∀ i e, (okvS s kv)[i]? = some e → ((mMo_lay m).1 0 ((mMo_lay m).2.1 i), (mMo_lay m).1 1 ((mMo_lay m).2.1 i)) = e) ∧ Rl s (mMo_lay m) kv := by
  obtain ⟨l1, l2⟩ := lay_z m
  have hmd : m.1 4 1 ≤ 0 ↔ m.1 4 1 = 0 := by
    rw [h.2.2.1]
    rcases Ab_mode h.1 with q | q | q
    · rw [q.1]; decide
    · rw [q]; decide
    · rw [q]; decide
  obtain ⟨g1, g2⟩ := lay_spec h.2.1 (Rl_z h).2.1 h.2.2.2.2.2.2 hmd
  rw [ok_same h] at g2
  exact ⟨g1, fun i e he => by rw [l1]; exact g2 i e he, Rl_cg h l1 l2⟩
