/-! ROWS FOR THE LAW -/
def xscr (X : xz_X) (b N : Nat) (f : Nat → Int32) : Prop := match X with
  | (_, _, _, s, _, _, _, _, _, _, A, _, _) => va_X b N f s s.heap ∧ b < s.heap.size ∧ ¬ A b
section XL
variable {X : xz_X} {cA : ClassId} {own : String} {cc : ByteArray} {nL : Nat} {ret' : Option FieldType} {R : Room} {ws : va_W} {k n pc : Nat} {L : List (Nat × Value)} {st : List Value}
theorem xs_widen {k' n' : Nat} (h1 : k ≤ k') (h2 : n ≤ n') (kk : xs X cA own cc nL ret' R ws k' n' pc L st) : xs X cA own cc nL ret' R ws k n pc L st := by
  obtain ⟨p, l, e, s, m, args, below, meth, c, D, A, Q, ty2⟩ := X
  intro v H locs ls hP hD hS hl
  exact W.widen h1 h2 (kk v H locs ls hP hD hS hl)
theorem xs_sld {b N j : Nat} {f : Nat → Int32} (hX : xscr X b N f) (hN : N ≤ 2048) (d : decode cc pc = .ok (.iaload, 1)) (hj : j < N) (kk : xs X cA own cc nL ret' R ws k n (pc + 1) L (.int (f j) :: st)) : xs X cA own cc nL ret' R ws k n pc L (.int (nI j) :: .ref b :: st) := by
  obtain ⟨p, l, e, s, m, args, below, meth, c, D, A, Q, ty2⟩ := X
  intro v H locs ls hP hD hS hl
  obtain ⟨⟨hx, hb, hml, hown, hts⟩, hK, hA, hlk, hrr, hfl, hns⟩ := id v
  obtain ⟨h1, h2, h3⟩ := hX
  refine va_sld hx hb h1 h2 h3 hS (vp_in_nI hj (by omega)) d ?_
  rw [nI_clamp (by omega)]
  exact kk v H locs ls hP hD hS hl
theorem xs_slen {b N : Nat} {f : Nat → Int32} (hX : xscr X b N f) (d : decode cc pc = .ok (.arraylength, 1)) (kk : xs X cA own cc nL ret' R ws k n (pc + 1) L (.int (nI N) :: st)) : xs X cA own cc nL ret' R ws k n pc L (.ref b :: st) := by
  obtain ⟨p, l, e, s, m, args, below, meth, c, D, A, Q, ty2⟩ := X
  intro v H locs ls hP hD hS hl
  obtain ⟨⟨hx, hb, hml, hown, hts⟩, hK, hA, hlk, hrr, hfl, hns⟩ := id v
  obtain ⟨h1, h2, h3⟩ := hX
  exact va_slen hx hb h1 h2 h3 hS d (kk v H locs ls hP hD hS hl)
theorem xs_lald {a N : Nat} {cL : ClassId} {f : Nat → Int64} {i : Int32} {x : Int64} (q0 : Nat) (hty : xty X = [(cL, .long)]) (d : decode cc pc = .ok (.laload, 1)) (he : ws[q0]? = some (a, .inl (cL, N, .inr (.inl f)))) (hi : vp_in i N) (hv : f i.toNatClampNeg = x) (kk : xs X cA own cc nL ret' R ws k n (pc + 1) L (.long x :: st)) : xs X cA own cc nL ret' R ws k n pc L (.int i :: .ref a :: st) := by
  obtain ⟨p, l, e, s, m, args, below, meth, c, D, A, Q, ty2⟩ := X
  have hty : ty2 = [(cL, .long)] := hty
  subst hty
  subst hv
  intro v H locs ls hP hD hS hl
  obtain ⟨⟨hx, hb, hml, hown, hts⟩, hK, hA, hlk, hrr, hfl, hns⟩ := id v
  exact va_lald hx hb hK hP q0 1 he rfl hi d (kk v H locs ls hP hD hS hl)
theorem lg_cmp_rf (x : Int64) : lg_cmp x x = 0 := by
  unfold lg_cmp
  rw [if_neg (fun h => by have h : x < x := h; rw [Int64.lt_iff_toInt_lt] at h; omega), if_pos rfl]
theorem xs_lcmp0 {x y : Int64} (h : x = y) (d : decode cc pc = .ok (.lcmp, 1)) (kk : xs X cA own cc nL ret' R ws k n (pc + 1) L (.int 0 :: st)) : xs X cA own cc nL ret' R ws k n pc L (.long y :: .long x :: st) := by
  subst h
  refine xs_op (fun S _ K => W.lcmp S.1 S.2.1 d K) ?_
  rw [lg_cmp_rf]
  exact kk
theorem xs_tabIn {dflt lo hi : Int} {offs : Array Int} {len : Nat} {x : Int32} {off : Int} {t : Nat} (d : decode cc pc = .ok (.tableswitch dflt lo hi offs, len)) (h1 : ¬ x.toInt < lo) (h2 : ¬ hi < x.toInt) (ho : offs[(x.toInt - lo).toNat]? = some off) (ht : (pc : Int) + off = (t : Int)) (kk : xs X cA own cc nL ret' R ws k n t L st) : xs X cA own cc nL ret' R ws k n pc L (.int x :: st) :=
  xs_op (fun S _ K => lv_tableIn S.1 S.2.1 d h1 h2 ho ht K) kk
theorem xs_tabOut {dflt lo hi : Int} {offs : Array Int} {len : Nat} {x : Int32} {t : Nat} (d : decode cc pc = .ok (.tableswitch dflt lo hi offs, len)) (h : x.toInt < lo ∨ hi < x.toInt) (ht : (pc : Int) + dflt = (t : Int)) (kk : xs X cA own cc nL ret' R ws k n t L st) : xs X cA own cc nL ret' R ws k n pc L (.int x :: st) :=
  xs_op (fun S _ K => lv_tableOut S.1 S.2.1 d h ht K) kk
end XL
theorem sub4 {N i : Nat} (hN : N ≤ 2048) (hi : i ≤ 2052) : nI N - 4 < nI i ↔ N < i + 4 := by
  rw [show (4 : Int32) = nI 4 from rfl, Int32.lt_iff_toInt_lt, pk_sub_toInt (by omega) (by omega), nI_toInt (by omega)]
  omega
