/-! WORLDS SIDE BY SIDE -/
theorem xP_l {D : va_G} {wc wr : va_W} {H : Heap} (h : va_P D vwCl (wc ++ wr) H) : va_P D vwCl wc H := fun k q hq => h k q (by rw [List.getElem?_append_left (List.getElem?_eq_some_iff.mp hq).1]; exact hq)
theorem xP_r {D : va_G} {wc wr : va_W} {H : Heap} (h : va_P D vwCl (wc ++ wr) H) : va_P D vwCl wr H := fun k q hq => h (wc.length + k) q (by rw [List.getElem?_append_right (by omega), Nat.add_sub_cancel_left]; exact hq)
theorem xD_l {A : Nat → Prop} {wc wr : va_W} (h : va_D A (wc ++ wr)) : va_D A wc :=
  ⟨fun i j p q hi hj e => h.1 i j p q (by rw [List.getElem?_append_left (List.getElem?_eq_some_iff.mp hi).1]; exact hi) (by rw [List.getElem?_append_left (List.getElem?_eq_some_iff.mp hj).1]; exact hj) e,
   fun k q hq => h.2 k q (by rw [List.getElem?_append_left (List.getElem?_eq_some_iff.mp hq).1]; exact hq)⟩
theorem xD_r {A : Nat → Prop} {wc wr : va_W} (h : va_D A (wc ++ wr)) : va_D A wr :=
  ⟨fun i j p q hi hj e => by
      have := h.1 (wc.length + i) (wc.length + j) p q (by rw [List.getElem?_append_right (by omega), Nat.add_sub_cancel_left]; exact hi) (by rw [List.getElem?_append_right (by omega), Nat.add_sub_cancel_left]; exact hj) e
      omega,
   fun k q hq => h.2 (wc.length + k) q (by rw [List.getElem?_append_right (by omega), Nat.add_sub_cancel_left]; exact hq)⟩
theorem xD_x {A : Nat → Prop} {wc wr : va_W} (h : va_D A (wc ++ wr)) : ∀ (i j : Nat) (p q : Nat × va_E), wc[i]? = some p → wr[j]? = some q → p.1 ≠ q.1 := by
  intro i j p q hi hj e
  have hl := (List.getElem?_eq_some_iff.mp hi).1
  have := h.1 i (wc.length + j) p q (by rw [List.getElem?_append_left hl]; exact hi) (by rw [List.getElem?_append_right (by omega), Nat.add_sub_cancel_left]; exact hj) e
  omega
theorem xjoin {A : Nat → Prop} {D : va_G} {wc wr w1 : va_W} {H H1 : Heap} (hP : va_P D vwCl (wc ++ wr) H) (hD : va_D A (wc ++ wr)) (hk : ∀ q : Nat, q < H.size → ¬ va_A wc H.size q → H1[q]? = H[q]?) (hF : ∀ q, va_A wc H.size q → A q) (hP1 : va_P D vwCl w1 H1) (hD1 : va_D (va_A wc H.size) w1) : va_P D vwCl (w1 ++ wr) H1 ∧ va_D A (w1 ++ wr) := by
  have apart : ∀ (k : Nat) (q : Nat × va_E), wr[k]? = some q → q.1 < H.size ∧ ¬ va_A wc H.size q.1 := by
    intro k q hq
    have hl := (xP_r hP k q hq).lt
    refine ⟨hl, fun h => ?_⟩
    rcases h with ⟨j, e, h⟩ | h
    · exact xD_x hD j k (q.1, e) q h hq rfl
    · omega
  refine ⟨va_P.app hP1 (fun k q hq => ?_), va_D.app (hD1.weaken (fun _ q _ h => hF q.1 h)) (xD_r hD) (fun i j x y hx hy e => ?_)⟩
  · obtain ⟨g1, g2⟩ := apart k q hq
    exact (xP_r hP k q hq).kept (hk q.1 g1 g2)
  · exact (apart j y hy).2 (by rw [← e]; exact hD1.2 i x hx)
section XF
variable {X : xz_X} {cA : ClassId} {own : String} {cc : ByteArray} {nL : Nat} {ret : Option FieldType} {R : Room} {ws wc wr : va_W} {k n pc : Nat} {L : List (Nat × Value)} {st st0 : List Value}
theorem xs_swap (kk : xs X cA own cc nL ret R (wr ++ wc) k n pc L st) : xs X cA own cc nL ret R (wc ++ wr) k n pc L st := by
  obtain ⟨p, l, e, s, m, args, below, meth, c, D, A, Q, ty2⟩ := X
  intro v H locs ls hP hD hS hl
  exact kk v H locs ls (va_P.app (xP_r hP) (xP_l hP)) (va_D.app (xD_r hD) (xD_l hD) (fun i j x y hx hy e => xD_x hD j i y x hy hx e.symm)) hS hl
theorem xs_ws {w1 : va_W} (h : ws = w1) (kk : xs X cA own cc nL ret R w1 k n pc L st) : xs X cA own cc nL ret R ws k n pc L st := h ▸ kk
/-- a call over the first part of the world -/
theorem xs_callF {y : MethodName} {cc' : ByteArray} {nL' ix ci N b : Nat} {ret' : Option FieldType} {R' : Room} {As : List Value} {r : Option Value} {w1 : va_W} {T : u_T} {fs : List Value} (q0 : Nat) (hc : xct cA y cc' nL' ret' R' (.ref b :: As) wc r w1) (h0 : R'.cells = 0) (h1 : R'.slots = 0) (d : decode cc pc = .ok (.invokevirtual ix, 3)) (hw : xwV own ix y cc' nL' ret' As.length) (hR : xroom R' nL' R)
    (he : wc[q0]? = some (b, .inr (ci, fs))) (hci : vwCl[ci]? = some (y.cls, T, N)) (hs0 : st0 = As.reverse ++ .ref b :: st) (hst : (st.map fun v => v.category).sum ≤ 8) (hkn : k ≤ R.cells ∧ n ≤ R.slots)
    (kk : xs X cA own cc nL ret R (w1 ++ wr) k n (pc + 3) L (r.toList ++ st)) : xs X cA own cc nL ret R (wc ++ wr) k n pc L st0 := by
  obtain ⟨p, l, e, s, m, args, below, meth, c, D, A, Q, ty2⟩ := X
  intro v H locs ls hP hD hS hl
  obtain ⟨⟨hx, hb, hml, hown, hts⟩, hK, hA, hlk, hrr, hfl, hns⟩ := id v
  have hc := hc l D H.size hfl
  have hK1 : va_K D vwCl [(cA, .int)] s := hK.sub [0] rfl
  rw [h0, h1] at hc
  obtain ⟨⟨w1', w2, w3, w4⟩, w5, w6⟩ := hw
  have hPc := xP_l hP
  have hDc := xD_l hD
  have hF : ∀ q, va_A wc H.size q → A q := fun q h => by
    rcases h with ⟨j, e9, h⟩ | h
    · exact hDc.2 j _ h
    · exact hA q (Nat.le_trans hS.1 h)
  refine xs_after (va_runV (C := y.cls) (As := As) (rest := st) ⟨hx, hb, hml, hown, hts⟩ hc ⟨callB_of As.length hts (gl_code w1') rfl h0 h1 (hts _ w2) (hts _ w3) w4 hR, hts _ w5, hts _ w6⟩ ⟨xP_blind, va_recv hK hPc hci he, fun U hU hW => ⟨rfl, by rw [hU], by rw [hU]; exact hPc, va_K.moved hW.alike hK1, hDc.weaken (fun _ _ _ _ => trivial)⟩⟩ rfl rfl hl.1 hs0 (lv_room hst) d hkn) hS (fun q _ h => hF q h) hF (fun H1 locs1 hP1 hD1 _ hk1 hS1 => ?_)
  obtain ⟨j1, j2⟩ := xjoin hP hD hk1 hF hP1 hD1
  exact kk v H1 locs1 ls j1 j2 hS1 hl
theorem xs_last {a N : Nat} {f : Nat → Int64} {i : Int32} {x : Int64} {w1 : va_W} {cL : ClassId} (q0 : Nat) (hty : X.2.2.2.2.2.2.2.2.2.2.2.2 = [(cL, .long)]) (d : decode cc pc = .ok (.lastore, 1)) (he : ws[q0]? = some (a, .inl (cL, N, .inr (.inl f)))) (hi : vp_in i N) (hw : ws.set q0 (a, .inl (cL, N, .inr (.inl (vp_updL f i.toNatClampNeg x)))) = w1)
    (kk : xs X cA own cc nL ret R w1 k n (pc + 1) L st) : xs X cA own cc nL ret R ws k n pc L (.long x :: .int i :: .ref a :: st) := by
  obtain ⟨p, l, e, s, m, args, below, meth, c, D, A, Q, ty2⟩ := X
  subst hw
  have hty : ty2 = [(cL, .long)] := hty
  subst hty
  intro v H locs ls hP hD hS hl
  obtain ⟨⟨hx, hb, hml, hown, hts⟩, hK, hA, hlk, hr, hfl, hns⟩ := id v
  exact va_last hx hb hK hP hD hS q0 1 he rfl hi d (fun H1 locs1 hP1 hD1 hS1 => kk v H1 locs1 ls hP1 hD1 hS1 hl)
end XF
/-- a method with handlers, at whose start an exception can be made -/
def xHX (X : xz_X) (hh : List (Nat × Nat × Nat × Nat)) : Prop := match X with
  | (_, _, _, s, _, _, _, _, c, _, A, _, _) => xE A s s.heap ∧ c.exceptionTable.toList.map (fun h => (h.startPc, h.endPc, h.handlerPc, h.catchType)) = hh
set_option maxHeartbeats 4000000 in
/-- a call over the first part of the world, whose callee throws; caught here -/
theorem xs_callT {X : xz_X} {cA : ClassId} {own : String} {cc : ByteArray} {nL : Nat} {ret : Option FieldType} {R : Room} {wc wr : va_W} {k n pc : Nat} {L : List (Nat × Value)} {st st0 : List Value} {y : MethodName} {cc' : ByteArray} {nL' ix ci N b : Nat} {ret' : Option FieldType} {R' : Room} {As : List Value} {E : String} {T0 : u_T} {fs : List Value} {h0 h1 h2 ct : Nat} (q0 : Nat) (hc : xctT cA y cc' nL' ret' R' (.ref b :: As) wc E) (hHX : xHX X [(h0, h1, h2, ct)])
    (d : decode cc pc = .ok (.invokevirtual ix, 3)) (hw : xwV own ix y cc' nL' ret' As.length) (hR : xroom R' nL' R) (he : wc[q0]? = some (b, .inr (ci, fs))) (hci : vwCl[ci]? = some (y.cls, T0, N)) (hs0 : st0 = As.reverse ++ .ref b :: st) (hst : (st.map fun v => v.category).sum ≤ 8) (hkn : k + R'.cells ≤ R.cells ∧ n + R'.slots ≤ R.slots)
    (hcov : (decide (h0 ≤ pc) && decide (pc < h1)) = true) (hct : ct ≠ 0) (hcl : Cond.classLink own ct E ∈ xt_tbl) (hcast : Cond.castable E E ∈ xBad)
    (kk : ∀ a : Nat, xs X cA own cc nL ret R (wc ++ wr) (k + R'.cells) (n + R'.slots) h2 L [.ref a]) : xs X cA own cc nL ret R (wc ++ wr) k n pc L st0 := by
  obtain ⟨p, l, e, s, m, args, below, meth, c, D, A, Q, ty2⟩ := X
  intro v H locs ls hP hD hS hl
  obtain ⟨⟨hx, hb, hml, hown, hts⟩, hK, hA, hlk, hrr, hfl, hns⟩ := id v
  obtain ⟨hE, hhd⟩ := hHX
  have hc := hc l D H.size hfl
  have hK1 : va_K D vwCl [(cA, .int)] s := hK.sub [0] rfl
  obtain ⟨⟨w1', w2, w3, w4⟩, w5, w6⟩ := hw
  have hPc := xP_l hP
  have hDc := xD_l hD
  have hF : ∀ q, va_A wc H.size q → A q := fun q h => by
    rcases h with ⟨j, e9, h⟩ | h
    · exact hDc.2 j _ h
    · exact hA q (Nat.le_trans hS.1 h)
  intro T hT X0
  obtain ⟨cellB, hcB, hoB, hclB⟩ := va_recv hK hPc hci he
  have hEH : xE A s H := hE.kept (fun a h1 h2 => hS.2.1 a h1 h2)
  obtain ⟨x, st₀, t, T', Ls, e0, eal, X', hL, eh, ⟨⟨a, cell, hox, hcell, hvm, hfE, hsz, hP1, hD1⟩, hz, hk1⟩, hst'⟩ := xcallT X0 hx hc
    (fun a U g mk q => by obtain ⟨q0, q1, qP, qK, qD, qE⟩ := q; exact ⟨q0, q1, qP, va_K.moved (u := U) (U := U.calling g mk a) (Vm.Alike.refl U.vm) qK, qD, xE.moved (U := U.calling g mk a) (Vm.Alike.refl U.vm) qE⟩)
    ⟨callB_of As.length hts (gl_code w1') rfl rfl rfl (hts _ w2) (hts _ w3) w4 hR, hts _ w5, hts _ w6⟩ hown (by rw [hT]; exact hcB) hoB hclB (g := F0 m pc ls st0) rfl (hl.1.trans hml.symm) (As := As) (rest := st) rfl hs0 (lv_room hst) (by rw [hb]; exact d) hkn
    (fun U hU hW => ⟨rfl, by rw [hU, hT], by rw [hU, hT]; exact hPc, va_K.moved hW.alike hK1, hDc.weaken (fun _ _ _ _ => trivial), (hEH.narrow hF).moved hW.alike |> fun q => by rw [hU, hT]; exact q⟩)
  cases hox
  rw [e0, hT] at hz hk1 hsz
  rw [← eh] at hP1 hcell hz hk1
  obtain ⟨j1, j2⟩ := xjoin hP hD hk1 hF hP1 hD1
  have hS1 : va_S A s.heap T'.heap (locs ++ Ls) := ⟨Nat.le_trans hS.1 hz, fun q h1 h2 => by rw [hk1 q (Nat.lt_of_lt_of_le h1 hS.1) (fun z => h2 (hF q z))]; exact hS.2.1 q h1 h2, fun q hq => by
      rcases List.mem_append.mp hq with h | h
      · exact hS.2.2 q h
      · exact hF _ (hL q h)⟩
  -- the handler
  have hpl : e.platform.magicAccessors = ({} : Platform).magicAccessors := by rw [X'.admits.platform]
  obtain ⟨cE, hfcE, hlk2⟩ := Cond.classLink_spec hown (hts _ hcl) e.platform hpl
  obtain ⟨hg, hwarm, hready⟩ := State.classEntry (e := e) X'.warmed hlk2
  have hsame : cell.cls = cE := by
    have h1 : st₀.vm.findClass E = s.vm.findClass E := eal.findClass E _
    rw [h1, hfcE] at hfE
    exact (Option.some.inj hfE).symm
  obtain ⟨c3, t3, g1, g2, g3⟩ := Cond.castable_spec (hE.2.2.1 _ hcast)
  cases hfcE.symm.trans g1
  cases hfcE.symm.trans g2
  obtain ⟨kE, hkE⟩ := Vm.classAt_of_findClass (vm := T'.vm.noted m.cls ct (.cls cE)) (name := E) (by rw [hwarm.alike.findClass]; exact hfcE)
  obtain ⟨x0, hx0, hxx⟩ : ∃ x0, c.exceptionTable.toList = [x0] ∧ (x0.startPc, x0.endPc, x0.handlerPc, x0.catchType) = (h0, h1, h2, ct) := by
    cases hq : c.exceptionTable.toList with
    | nil => rw [hq] at hhd; simp at hhd
    | cons x0 t0 =>
      rw [hq] at hhd
      cases t0 with
      | nil => exact ⟨x0, rfl, by simpa using hhd⟩
      | cons y0 z0 => simp at hhd
  simp only [Prod.mk.injEq] at hxx
  obtain ⟨b1, b2, b3, b4⟩ := hxx
  have hfind := xfind_cold (e := e) (s := (T'.setTop (F0 m pc ls st)).pushFrame (.throwing x)) (f := F0 m pc ls st) (a := x) (meth := meth) (code := c) (by rw [throwing_vm]; exact X'.method') X'.code (x := x0) (t := []) hx0 (by simp only [covers]; rw [b1, b2]; exact hcov) (by rw [b4]; exact hct) (c := cE) (vm' := T'.vm.noted m.cls ct (.cls cE)) (by rw [throwing_vm, b4]; exact hg) (by rw [throwing_vm]; simp) (cell := cell) (by rw [throwing_heap]; exact hcell) (by rw [hvm]; intro k h; cases h) ⟨kE, by rw [hsame]; exact hkE⟩ ⟨kE, hkE⟩ (by rw [hwarm.alike.assignable, hsame]; exact g3)
  have X2 := X'.noted hwarm
  have KW := kk x v T'.heap (locs ++ Ls) ls j1 j2 hS1 hl
  obtain ⟨t2, a1, a2⟩ := KW (T'.setVm (T'.vm.noted m.cls ct (.cls cE))) rfl X2
  refine ⟨t2, hst' t2 (xcaught (g := F0 m pc ls st) (by exact X'.here) hfind ?_), a2⟩
  rw [b3]
  exact a1
