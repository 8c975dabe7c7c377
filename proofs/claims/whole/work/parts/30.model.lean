/-! THE REFERENCE: rows of ints (0 keys, 1 numbers, 4: 0 failed, 1 mode, 2 function, 3 most, 4 room), the order, the heads, the size -/
abbrev zM : Type := (Nat → Nat → Int32) × (Nat → Fin 2000) × (Nat → Nat) × Nat
def zq (f : Fin 2000) : Int32 := nI f.val
def zo : Option Nat → Int32
  | none => -1
  | some i => nI i
def y1 (m : zM) (r i : Nat) (x : Int32) : zM := (fun q => bif Nat.beq q r then zup (m.1 q) i x else m.1 q, m.2)
def yo (m : zM) (i : Nat) (f : Fin 2000) : zM := (m.1, zup m.2.1 i f, m.2.2)
def yh (m : zM) (i h : Nat) : zM := (m.1, m.2.1, zup m.2.2.1 i h, m.2.2.2)
def yz (m : zM) (n : Nat) : zM := (m.1, m.2.1, m.2.2.1, n)
def mMo_fail (m : zM) (c : Int32) : zM := y1 m 4 0 c
def mMo_at1L (m : zM) (k : Int32) : Nat → Nat → Option Nat
  | 0, _ => none
  | n + 1, i => if m.1 0 i = k then some i else mMo_at1L m k n (i + 1)
def mMo_at1 (m : zM) (k : Int32) : Option Nat := mMo_at1L m k m.2.2.2 0
def mMo_code (m : zM) (k : Int32) : Int32 := if m.1 4 2 = 0 then k else if m.1 4 2 = 1 then k &&& 3 else k * (-1640531527)
def mMo_place (m : zM) (k : Int32) : zP := ⟨(mBi_mix (mMo_code m k) &&& (m.1 4 4 - 1)).toNatClampNeg % 4096, Nat.mod_lt _ (by decide)⟩
def mMo_remL : Nat → Nat → zM → zM
  | 0, _, m => m
  | n + 1, i, m =>
    let m := y1 m 0 i (m.1 0 (i + 1))
    let m := y1 m 1 i (m.1 1 (i + 1))
    mMo_remL n (i + 1) m
def mMo_remove (m : zM) (j : Nat) : zM := mMo_remL (m.2.2.2 - 1 - j) j (yz m (m.2.2.2 - 1))
def mMo_append (m : zM) (k x : Int32) : zM :=
  let m := y1 m 0 m.2.2.2 k
  let m := y1 m 1 m.2.2.2 x
  yz m (m.2.2.2 + 1)
def mMo_touch (m : zM) (j : Nat) : zM := mMo_append (mMo_remove m j) (m.1 0 j) (m.1 1 j)
def mMo_full (m : zM) (k : Int32) : Bool := !decide (2 ≤ m.1 4 1) && (decide (nI m.2.2.2 = 2000) && (mMo_at1 m k).isNone)
def mMo_ent2 (m : zM) (k x : Int32) : zM :=
  let m := mMo_append m k x
  if m.1 4 1 = 0 then (if 4 * nI m.2.2.2 ≤ 3 * m.1 4 4 then m else y1 m 4 4 (m.1 4 4 * 2)) else m
def mMo_ent1 (m : zM) (k x : Int32) : zM := if m.1 4 1 = 2 then (if nI m.2.2.2 = m.1 4 3 then mMo_ent2 (mMo_remove m 0) k x else mMo_ent2 m k x) else mMo_ent2 m k x
def mMo_ent0 (m : zM) (j : Nat) (x : Int32) : zM := if (y1 m 1 j x).1 4 1 = 2 then mMo_touch (y1 m 1 j x) j else y1 m 1 j x
def mMo_enter (m : zM) (k x : Int32) : zM := match mMo_at1 m k with
  | some j => mMo_ent0 m j x
  | none => mMo_ent1 m k x
def mMo_layI : Nat → Nat → zM → zM
  | 0, _, m => m
  | n + 1, i, m => mMo_layI n (i + 1) (yo m i (Fin.ofNat 2000 i))
def mMo_lay0 : Nat → Nat → zM → zM
  | 0, _, m => m
  | n + 1, p, m => mMo_lay0 n (p + 1) (yh m p 0)
def mMo_lay1 : Nat → Nat → zM → zM
  | 0, _, m => m
  | n + 1, i, m => mMo_lay1 n (i + 1) (yh m (mMo_place m (m.1 0 i)) (m.2.2.1 (mMo_place m (m.1 0 i)) + 1))
def mMo_lay2 : Nat → Nat → Nat → zM → zM
  | 0, _, _, m => m
  | n + 1, p, sum, m => mMo_lay2 n (p + 1) (sum + m.2.2.1 p) (yh m p sum)
def mMo_lay3 : Nat → Nat → zM → zM
  | 0, _, m => m
  | n + 1, i, m => mMo_lay3 n (i + 1) (yo (yh m (mMo_place m (m.1 0 i)) (m.2.2.1 (mMo_place m (m.1 0 i)) + 1)) (m.2.2.1 (mMo_place m (m.1 0 i))) (Fin.ofNat 2000 i))
/-- the fourth loop writes within the order's row -/
def laySf : Nat → Nat → zM → Prop
  | 0, _, _ => True
  | n + 1, i, m => m.2.2.1 (mMo_place m (m.1 0 i)) < 2000 ∧ laySf n (i + 1) (yo (yh m (mMo_place m (m.1 0 i)) (m.2.2.1 (mMo_place m (m.1 0 i)) + 1)) (m.2.2.1 (mMo_place m (m.1 0 i))) (Fin.ofNat 2000 i))
def mMo_F3 (m : zM) : zM := mMo_lay3 m.2.2.2 0 m
def mMo_F2 (m : zM) : zM := mMo_lay2 (m.1 4 4).toNatClampNeg 0 0 m
def mMo_F1 (m : zM) : zM := mMo_F2 (mMo_lay1 m.2.2.2 0 m)
def mMo_F0 (m : zM) : zM := mMo_F1 (mMo_lay0 (m.1 4 4).toNatClampNeg 0 m)
/-- what laying the order by places wants -/
def layOk (m : zM) : Prop := m.1 4 1 ≤ 0 → laySf (mMo_F0 m).2.2.2 0 (mMo_F0 m)
def mMo_lay (m : zM) : zM := if m.1 4 1 ≤ 0 then mMo_F3 (mMo_F0 m) else mMo_layI m.2.2.2 0 m
def mMo_afL (m : zM) (k : Int32) : Nat → Nat → Option Int32
  | 0, _ => none
  | n + 1, i => if m.1 0 (m.2.1 i) = k then some (m.1 0 (m.2.1 (i + 1))) else mMo_afL m k n (i + 1)
def mMo_hashL (m : zM) : Nat → Nat → Int32 → Int32
  | 0, _, h => h
  | n + 1, i, h => mMo_hashL m n (i + 1) (31 * (31 * h + m.1 0 (m.2.1 i)) + m.1 1 (m.2.1 i))
def mMo_okMode (mode f most : Int32) : Bool := !decide (mode < 0) && (!decide (2 < mode) && (!decide (f < 0) && (!decide (2 < f) && (if mode = 2 then !decide (most < 1) && decide (most ≤ 2000) else decide (most = 0)))))
def mMo_make (m : zM) (mode f most : Int32) : Int32 × zM :=
  let m := y1 m 4 0 0
  if mMo_okMode mode f most then (nI m.2.2.2, yz (y1 (y1 (y1 (y1 m 4 1 mode) 4 2 f) 4 3 most) 4 4 16) 0) else (0, y1 m 4 0 1)
def mMo_put (m : zM) (k x : Int32) : Int64 × zM :=
  let m := y1 m 4 0 0
  if mMo_full m k then ((0 : Int32).toInt64, y1 m 4 0 1) else (match mMo_at1 m k with | some j => (m.1 1 j).toInt64 | none => 4294967296, mMo_enter m k x)
def mMo_find (m : zM) (k : Int32) (t : Bool) : Int32 × zM :=
  let m := y1 m 4 0 0
  match mMo_at1 m k with
  | none => (0, y1 m 4 0 1)
  | some j => (m.1 1 j, if t then mMo_remove m j else if m.1 4 1 = 2 then mMo_touch m j else m)
def mMo_fillL (x step : Int32) : Nat → Nat → zM → zM
  | 0, _, m => m
  | n + 1, i, m => if mMo_full m (x + nI i * step) then m else mMo_fillL x step n (i + 1) (mMo_enter m (x + nI i * step) (nI i))
def mMo_fill (m : zM) (x step nn : Int32) : Int32 × zM :=
  let m := y1 m 4 0 0
  if nn < 0 then (0, y1 m 4 0 1) else if nn ≤ 2000 then (nI (mMo_fillL x step nn.toNatClampNeg 0 m).2.2.2, mMo_fillL x step nn.toNatClampNeg 0 m) else (0, y1 m 4 0 1)
def mMo_at (m : zM) (i : Int32) : Int32 × zM :=
  let m := y1 m 4 0 0
  if i < 0 then (0, y1 m 4 0 1) else if i < nI m.2.2.2 then ((mMo_lay m).1 0 ((mMo_lay m).2.1 i.toNatClampNeg), mMo_lay m) else (0, y1 m 4 0 1)
def mMo_afR (m : zM) : Option Int32 → Int32 × zM
  | some v => (v, m)
  | none => (0, y1 m 4 0 1)
def mMo_after (m : zM) (k : Int32) : Int32 × zM := mMo_afR (mMo_lay (y1 m 4 0 0)) (mMo_afL (mMo_lay (y1 m 4 0 0)) k ((mMo_lay (y1 m 4 0 0)).2.2.2 - 1) 0)
def mMo_hash (m : zM) : Int32 := mMo_hashL (mMo_lay (y1 m 4 0 0)) (mMo_lay (y1 m 4 0 0)).2.2.2 0 1
def mrok (m : zM) : Prop := ∃ e : Nat, e ≤ 8 ∧ m.1 4 4 = nI (2 ^ (e + 4))
/-- what enter wants: room for one more -/
def entOk (m : zM) (k : Int32) : Prop := mMo_at1 m k = none → (if m.1 4 1 = 2 ∧ nI m.2.2.2 = m.1 4 3 then 1 ≤ m.2.2.2 else m.2.2.2 < 2000)
/-- what fill wants all along -/
def fillOk (x step : Int32) : Nat → Nat → zM → Prop
  | 0, _, m => m.2.2.2 ≤ 2000
  | n + 1, i, m => m.2.2.2 ≤ 2000 ∧ (mMo_full m (x + nI i * step) = false → entOk m (x + nI i * step) ∧ fillOk x step n (i + 1) (mMo_enter m (x + nI i * step) (nI i)))
theorem mrok_nI {m : zM} (hr : mrok m) : ∃ r : Nat, 1 ≤ r ∧ r ≤ 4096 ∧ m.1 4 4 = nI r := by
  obtain ⟨e, he, hs⟩ := hr
  exact ⟨2 ^ (e + 4), Nat.one_le_two_pow, Nat.le_trans (Nat.pow_le_pow_right (by decide) (show e + 4 ≤ 12 by omega)) (by decide), hs⟩
theorem mrok_le {m : zM} (h : mrok m) : (m.1 4 4).toNatClampNeg ≤ 4096 := by
  obtain ⟨r, -, h2, e⟩ := mrok_nI h
  rw [e, nI_clamp (by omega)]
  exact h2
theorem mplace_eq {m : zM} {key : Int32} (hr : mrok m) : mBi_mix (mMo_code m key) &&& (m.1 4 4 - 1) = zp (mMo_place m key) := by
  obtain ⟨r, h1, h2, e⟩ := mrok_nI hr
  have e1 : m.1 4 4 - 1 = nI (r - 1) := by
    rw [e]
    exact pk_sub (b := 1) h1
  have hle : (mBi_mix (mMo_code m key) &&& (m.1 4 4 - 1)).toBitVec.toNat ≤ r - 1 := by
    rw [e1, Int32.toBitVec_and, BitVec.toNat_and, pk_tn (by omega)]
    exact Nat.and_le_right
  have e3 := i32_tn (mBi_mix (mMo_code m key) &&& (m.1 4 4 - 1))
  show _ = nI ((mBi_mix (mMo_code m key) &&& (m.1 4 4 - 1)).toNatClampNeg % 4096)
  have e4 : (mBi_mix (mMo_code m key) &&& (m.1 4 4 - 1)).toNatClampNeg = (mBi_mix (mMo_code m key) &&& (m.1 4 4 - 1)).toBitVec.toNat := by
    conv => lhs; rw [e3]
    exact nI_clamp (by omega)
  rw [e4, Nat.mod_eq_of_lt (by omega)]
  exact e3
theorem at1L_lt {m : zM} {k : Int32} : ∀ {n i j : Nat}, mMo_at1L m k n i = some j → j < i + n := by
  intro n
  induction n with
  | zero => intro i j h; cases h
  | succ n ih =>
    intro i j h
    rw [mMo_at1L] at h
    split at h
    · cases h; omega
    · have := ih h; omega
theorem at1_lt {m : zM} {k : Int32} {j : Nat} (h : mMo_at1 m k = some j) : j < m.2.2.2 := by
  have := at1L_lt h
  omega
theorem remL_z : ∀ (n i : Nat) (m : zM), (mMo_remL n i m).2 = m.2 ∧ ∀ q, q ≠ 0 → q ≠ 1 → (mMo_remL n i m).1 q = m.1 q := by
  intro n
  induction n with
  | zero => intro i m; exact ⟨rfl, fun _ _ _ => rfl⟩
  | succ n ih =>
    intro i m
    obtain ⟨h1, h2⟩ := ih (i + 1) (y1 (y1 m 0 i (m.1 0 (i + 1))) 1 i ((y1 m 0 i (m.1 0 (i + 1))).1 1 (i + 1)))
    refine ⟨h1, fun q q0 q1 => (h2 q q0 q1).trans ?_⟩
    show (bif Nat.beq q 1 then _ else bif Nat.beq q 0 then _ else _) = m.1 q
    cases h3 : Nat.beq q 1 with
    | true => exact absurd (Nat.eq_of_beq_eq_true h3) q1
    | false =>
      cases h4 : Nat.beq q 0 with
      | true => exact absurd (Nat.eq_of_beq_eq_true h4) q0
      | false => rfl
theorem rem_z (m : zM) (j : Nat) : (mMo_remove m j).2.2.2 = m.2.2.2 - 1 := by
  unfold mMo_remove
  rw [(remL_z _ _ _).1]
  rfl
theorem zq_clamp (a : Fin 2000) : (zq a).toNatClampNeg = a.val := nI_clamp (Nat.lt_trans a.isLt (by decide))
theorem zq_in (a : Fin 2000) : vp_in (zq a) 2000 := vp_in_nI a.isLt (by decide)
theorem zq_of {i : Nat} (h : i < 2000) : zq (Fin.ofNat 2000 i) = nI i := by
  show nI (i % 2000) = nI i
  rw [Nat.mod_eq_of_lt h]
theorem up_zq (f : Nat → Fin 2000) (i : Nat) (v : Fin 2000) : upd (fun k => zq (f k)) i (zq v) = fun k => zq (zup f i v k) := by
  funext k
  unfold upd zup
  by_cases h : k = i
  · rw [if_pos h, if_pos h]
  · rw [if_neg h, if_neg h]
theorem up_zn (f : Nat → Nat) (i v : Nat) : upd (fun k => nI (f k)) i (nI v) = fun k => nI (zup f i v k) := by
  funext k
  unfold upd zup
  by_cases h : k = i
  · rw [if_pos h, if_pos h]
  · rw [if_neg h, if_neg h]
theorem up_zm (m : zM) (r i : Nat) (v : Int32) : upd (m.1 r) i v = zup (m.1 r) i v := rfl
theorem zo_lt {o : Option Nat} (h : ∀ i, o = some i → i < 2 ^ 31) : zo o < 0 ↔ o = none := by
  cases o with
  | none => exact ⟨fun _ => rfl, fun _ => by decide⟩
  | some i => exact ⟨fun q => absurd q (nI_pos (h i rfl)), fun q => by cases q⟩
theorem layI_z : ∀ (n i : Nat) (m : zM), (mMo_layI n i m).1 = m.1 ∧ (mMo_layI n i m).2.2 = m.2.2 := by
  intro n
  induction n with
  | zero => intro i m; exact ⟨rfl, rfl⟩
  | succ n ih => intro i m; exact ih _ _
theorem lay0_z : ∀ (n i : Nat) (m : zM), (mMo_lay0 n i m).1 = m.1 ∧ (mMo_lay0 n i m).2.2.2 = m.2.2.2 := by
  intro n
  induction n with
  | zero => intro i m; exact ⟨rfl, rfl⟩
  | succ n ih => intro i m; exact ih _ _
theorem lay1_z : ∀ (n i : Nat) (m : zM), (mMo_lay1 n i m).1 = m.1 ∧ (mMo_lay1 n i m).2.2.2 = m.2.2.2 := by
  intro n
  induction n with
  | zero => intro i m; exact ⟨rfl, rfl⟩
  | succ n ih => intro i m; exact ih _ _
theorem lay2_z : ∀ (n i j : Nat) (m : zM), (mMo_lay2 n i j m).1 = m.1 ∧ (mMo_lay2 n i j m).2.2.2 = m.2.2.2 := by
  intro n
  induction n with
  | zero => intro i j m; exact ⟨rfl, rfl⟩
  | succ n ih => intro i j m; exact ih _ _ _
theorem lay3_z : ∀ (n i : Nat) (m : zM), (mMo_lay3 n i m).1 = m.1 ∧ (mMo_lay3 n i m).2.2.2 = m.2.2.2 := by
  intro n
  induction n with
  | zero => intro i m; exact ⟨rfl, rfl⟩
  | succ n ih => intro i m; exact ih _ _
theorem F0_z (m : zM) : (mMo_F0 m).1 = m.1 ∧ (mMo_F0 m).2.2.2 = m.2.2.2 := by
  have h0 := lay0_z (m.1 4 4).toNatClampNeg 0 m
  have h1 := lay1_z (mMo_lay0 (m.1 4 4).toNatClampNeg 0 m).2.2.2 0 (mMo_lay0 (m.1 4 4).toNatClampNeg 0 m)
  have h2 := lay2_z ((mMo_lay1 (mMo_lay0 (m.1 4 4).toNatClampNeg 0 m).2.2.2 0 (mMo_lay0 (m.1 4 4).toNatClampNeg 0 m)).1 4 4).toNatClampNeg 0 0 (mMo_lay1 (mMo_lay0 (m.1 4 4).toNatClampNeg 0 m).2.2.2 0 (mMo_lay0 (m.1 4 4).toNatClampNeg 0 m))
  exact ⟨h2.1.trans (h1.1.trans h0.1), h2.2.trans (h1.2.trans h0.2)⟩
theorem lay_z (m : zM) : (mMo_lay m).1 = m.1 ∧ (mMo_lay m).2.2.2 = m.2.2.2 := by
  unfold mMo_lay
  split
  · have h := lay3_z (mMo_F0 m).2.2.2 0 (mMo_F0 m)
    exact ⟨h.1.trans (F0_z m).1, h.2.trans (F0_z m).2⟩
  · have h := layI_z m.2.2.2 0 m
    exact ⟨h.1, congrArg Prod.snd h.2⟩
theorem i32_nn {x : Int32} (h : ¬ x < 0) : x = nI x.toNatClampNeg := by
  obtain ⟨j, hj, e⟩ := nI_of h
  rw [e, nI_clamp hj]
theorem i32_lt_nn {x : Int32} {n : Nat} (h : ¬ x < 0) (hn : n < 2 ^ 31) (k : x < nI n) : x.toNatClampNeg < n := by
  obtain ⟨j, hj, e⟩ := nI_of h
  rw [e] at k ⊢
  rw [nI_clamp hj]
  exact (nI_ltI hj hn).mp k
theorem nI_m1 {n : Nat} (h : 1 ≤ n) : nI n - 1 = nI (n - 1) := by
  obtain ⟨m, rfl⟩ : ∃ m, n = m + 1 := ⟨n - 1, by omega⟩
  exact nI_pred m
section XS4
variable {X : xz_X} {cA : ClassId} {own : String} {cc : ByteArray} {nL : Nat} {ret : Option FieldType} {R : Room} {ws : va_W} {k n pc : Nat} {L : List (Nat × Value)} {st : List Value}
theorem xs_if_le {x : Int32} {off : Int} {t : Nat} (d : decode cc pc = .ok (.ifCond .le off, 3)) (ht : (pc : Int) + off = (t : Int)) (kt : x ≤ 0 → xs X cA own cc nL ret R ws k n t L st) (kf : ¬ x ≤ 0 → xs X cA own cc nL ret R ws k n (pc + 3) L st) : xs X cA own cc nL ret R ws k n pc L (.int x :: st) :=
  xs_br (fun S a b => lv_if_le S.1 S.2.1 d ht a b) kt kf
theorem xs_oif_lt {o : Option Nat} {off : Int} {t : Nat} (d : decode cc pc = .ok (.ifCond .lt off, 3)) (ht : (pc : Int) + off = (t : Int)) (ho : ∀ i, o = some i → i < 2 ^ 31) (kt : o = none → xs X cA own cc nL ret R ws k n t L st) (kf : ∀ i, o = some i → xs X cA own cc nL ret R ws k n (pc + 3) L st) : xs X cA own cc nL ret R ws k n pc L (.int (zo o) :: st) :=
  xs_if_lt d ht (fun h => kt ((zo_lt ho).mp h)) (fun h => by
    cases hc : o with
    | none => exact absurd ((zo_lt ho).mpr hc) h
    | some i => exact kf i hc)
theorem xs_oif_ge {o : Option Nat} {off : Int} {t : Nat} (d : decode cc pc = .ok (.ifCond .ge off, 3)) (ht : (pc : Int) + off = (t : Int)) (ho : ∀ i, o = some i → i < 2 ^ 31) (kt : ∀ i, o = some i → xs X cA own cc nL ret R ws k n t L st) (kf : o = none → xs X cA own cc nL ret R ws k n (pc + 3) L st) : xs X cA own cc nL ret R ws k n pc L (.int (zo o) :: st) :=
  xs_if_ge d ht (fun h => by
    cases hc : o with
    | none =>
      rw [hc] at h
      exact absurd h (by decide)
    | some i => exact kt i hc) (fun h => kf (by
    cases hc : o with
    | none => rfl
    | some i =>
      rw [hc] at h
      exact absurd (nI_pos' (ho i hc)) h))
theorem xs_dup2 {va vb : Value} (d : decode cc pc = .ok (.dup2, 1)) (ha : va.category = 1) (hb : vb.category = 1) (kk : xs X cA own cc nL ret R ws k n (pc + 1) L (va :: vb :: va :: vb :: st)) : xs X cA own cc nL ret R ws k n pc L (va :: vb :: st) :=
  xs_op (fun S _ K => lv_dup2_11 S.1 S.2.1 d ha hb K) kk
theorem xs_dup_x2 {va vb vd : Value} (d : decode cc pc = .ok (.dup_x2, 1)) (ha : va.category = 1) (hb : vb.category = 1) (hd : vd.category = 1) (kk : xs X cA own cc nL ret R ws k n (pc + 1) L (va :: vb :: vd :: va :: st)) : xs X cA own cc nL ret R ws k n pc L (va :: vb :: vd :: st) :=
  xs_op (fun S _ K => lv_dup_x2 S.1 S.2.1 d ha hb hd K) kk
theorem xs_lload {i : Nat} {x : Int64} (j : Nat) (d : decode cc pc = .ok (.lload i, 2)) (h : L[j]? = some (i, .long x)) (kk : xs X cA own cc nL ret R ws k n (pc + 2) L (.long x :: st)) : xs X cA own cc nL ret R ws k n pc L st :=
  xs_op (fun S hl K => lv_lload S.1 S.2.1 d (lv_at hl j h) K) kk
theorem xs_lstore {i : Nat} {x : Int64} {L' : List (Nat × Value)} (d : decode cc pc = .ok (.lstore i, 2)) (hn : i + 1 < nL) (hl : (i, Value.long x) :: L.filter (fun q => !(q.1 == i) && (!(q.1 == i + 1) && !(q.1 + 1 == i && q.2.category == 2))) = L') (kk : xs X cA own cc nL ret R ws k n (pc + 2) L' st) : xs X cA own cc nL ret R ws k n pc L (.long x :: st) :=
  xs_lo (fun S h K => lv_lstore S.1 S.2.1 d h hn hl K) kk
end XS4
