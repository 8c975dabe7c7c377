/-! METHODS WITH HANDLERS -/
def xctW (cA cL : ClassId) (y : MethodName) (cc : ByteArray) (nL : Nat) (ret : Option FieldType) (hh : List (Nat × Nat × Nat × Nat)) (R : Room) (av : List Value) (ws : va_W) (r : Option Value) (w1 : va_W) : Prop :=
  ∀ (l : Launch) (D : va_G) (sz : Nat), l.flags = flags0 → Met l y (.codeWith y cc nL ret hh :: xt_tbl) R (va_Pc av (fun U => U.heap.size = sz ∧ va_P D vwCl ws U.heap ∧ va_K D vwCl [(cA, .int), (cL, .long)] U ∧ va_D (fun _ => True) ws ∧ xE (va_A ws sz) U U.heap)) (xq D cA (va_A ws sz) r w1) R.cells R.slots (va_A ws sz)
abbrev xty (X : xz_X) : List (ClassId × FieldType) := X.2.2.2.2.2.2.2.2.2.2.2.2
theorem xctW_of {cA cL : ClassId} {y : MethodName} {own : String} {cc : ByteArray} {nL : Nat} {ret : Option FieldType} {hh : List (Nat × Nat × Nat × Nat)} {R : Room} {av : List Value} {ws : va_W} {r : Option Value} {w1 : va_W}
    (hy : plainName y.cls = true) (hown : y.cls = own) (hn : (lg_sl av).length ≤ nL) (body : ∀ X : xz_X, xfin X cA R.cells R.slots r w1 → xHX X hh → xty X = [(cL, .long)] → xs X cA own cc nL ret R ws 0 0 0 (lv_args 0 av) []) : xctW cA cL y cc nL ret hh R av ws r w1 := by
  intro l D sz hfl
  refine va_MetW (cc := cc) (maxL := nL) (ret := ret) (hh := hh) hy rfl ?_
  intro p e s m args below meth c s₁ B hml hv
  obtain ⟨rfl, hsz, hP, hK, hD0, hE⟩ := hv
  have hts := atoms_spec (ws := .codeWith y cc nL ret hh :: xt_tbl) B.pre
  have hfc : s.vm.findClass own = some m.cls := by rw [← hown]; exact findClass_of_methodNamed B.named
  subst hsz
  have hD := hD0.self (sz := s.heap.size)
  have hl := lv_entry av (n := nL) hn
  rw [lg_entry_eq]
  have hhd : c.exceptionTable.toList.map (fun h => (h.startPc, h.endPc, h.handlerPc, h.catchType)) = hh := by
    obtain ⟨m9, meth9, c9, g1, g2, g3, -, -, g4, -⟩ := Cond.codeWith_spec (hts _ List.mem_cons_self)
    cases B.named.symm.trans g1
    cases B.method.symm.trans g2
    cases (Stand.of_body B).code.symm.trans g3
    exact g4
  exact body (p, l, e, s, m, av.toArray, below, meth, c, D, va_A ws s.heap.size, MQ below (xq D cA (va_A ws s.heap.size) r w1) av.toArray s R.cells R.slots (va_A ws s.heap.size), [(cL, .long)]) rfl ⟨hE, hhd⟩ rfl
    ⟨⟨B.exec, B.bytes, hml, hfc, fun w hw => hts w (List.mem_cons_of_mem _ hw)⟩, hK, fun q h => Or.inr h, B.notSynchronized, B.returns, hfl, xa_ns hP⟩ s.heap [] _ hP hD va_S.rf hl
def xwW (own : String) (ix : Nat) (y : MethodName) (cc : ByteArray) (nL : Nat) (ret : Option FieldType) (hh : List (Nat × Nat × Nat × Nat)) (a : Nat) : Prop :=
  Cond.codeWith y cc nL ret hh ∈ xt_tbl ∧ Cond.initialized y.cls ∈ xt_tbl ∧ Cond.methodLink own ix y ∈ xt_tbl ∧ Cond.static y ∈ xt_tbl ∧ (y.cls ≠ "java/lang/invoke/MethodHandle" ∧ y.cls ≠ "java/lang/invoke/VarHandle" ∧ (parseMethodDescriptor y.desc).map (fun d => d.parameters.length) = some a)
section XW
variable {X : xz_X} {cA : ClassId} {own : String} {cc : ByteArray} {nL : Nat} {ret : Option FieldType} {R : Room} {ws wc wr : va_W} {k n pc : Nat} {L : List (Nat × Value)} {st st0 : List Value}
theorem xs_astore_n {i : Fin 4} {x : Nat} {L' : List (Nat × Value)} (d : decode cc pc = .ok (.astore_n i, 1)) (hn : (i : Nat) < nL) (hl : ((i : Nat), Value.ref x) :: L.filter (fun q => !(q.1 == (i : Nat)) && !(q.1 + 1 == (i : Nat) && q.2.category == 2)) = L') (kk : xs X cA own cc nL ret R ws k n (pc + 1) L' st) : xs X cA own cc nL ret R ws k n pc L (.ref x :: st) :=
  xs_lo (fun S h K => lv_astore_n S.1 S.2.1 d rfl h hn hl K) kk
theorem xs_astore {i : Nat} {x : Nat} {L' : List (Nat × Value)} (d : decode cc pc = .ok (.astore i, 2)) (hn : i < nL) (hl : (i, Value.ref x) :: L.filter (fun q => !(q.1 == i) && !(q.1 + 1 == i && q.2.category == 2)) = L') (kk : xs X cA own cc nL ret R ws k n (pc + 2) L' st) : xs X cA own cc nL ret R ws k n pc L (.ref x :: st) :=
  xs_lo (fun S h K => lv_astore S.1 S.2.1 d h hn hl K) kk
/-- an exception can be made, as far as the start of X tells -/
def xEl (X : xz_X) : Prop := match X with
  | (_, _, _, s, _, _, _, _, _, _, A, _, _) => xE A s s.heap
set_option maxHeartbeats 4000000 in
/-- a call of a static method with handlers, over the first part of the world -/
theorem xs_callW {y : MethodName} {cc' : ByteArray} {nL' ix : Nat} {cL : ClassId} {ret' : Option FieldType} {hh : List (Nat × Nat × Nat × Nat)} {R' : Room} {As : List Value} {r : Option Value} {w1 : va_W} (hc : xctW cA cL y cc' nL' ret' hh R' As wc r w1) (hty : xty X = [(cL, .long)]) (hE : xEl X) (d : decode cc pc = .ok (.invokestatic ix, 3)) (hw : xwW own ix y cc' nL' ret' hh As.length) (hR : xroom R' nL' R)
    (hs0 : st0 = As.reverse ++ st) (hst : (st.map fun v => v.category).sum ≤ 8) (hkn : k + R'.cells ≤ R.cells ∧ n + R'.slots ≤ R.slots)
    (kk : xs X cA own cc nL ret R (w1 ++ wr) (k + R'.cells) (n + R'.slots) (pc + 3) L (r.toList ++ st)) : xs X cA own cc nL ret R (wc ++ wr) k n pc L st0 := by
  obtain ⟨p, l, e, s, m, args, below, meth, c, D, A, Q, ty2⟩ := X
  have hty : ty2 = [(cL, .long)] := hty
  subst hty
  intro v H locs ls hP hD hS hl
  obtain ⟨⟨hx, hb, hml, hown, hts⟩, hK, hA, hlk, hrr, hfl, hns⟩ := id v
  have hc := hc l D H.size hfl
  obtain ⟨w1', w2, w3, w4, w5⟩ := hw
  have hPc := xP_l hP
  have hDc := xD_l hD
  have hF : ∀ q, va_A wc H.size q → A q := fun q h => by
    rcases h with ⟨j, e9, h⟩ | h
    · exact hDc.2 j _ h
    · exact hA q (Nat.le_trans hS.1 h)
  have hEH : xE A s H := hE.kept (fun a h1 h2 => hS.2.1 a h1 h2)
  have hG : GoodIn xt_tbl (.codeWith y cc' nL' ret' hh :: xt_tbl) := gl_code w1'
  have hbl : FrameBlind (va_Pc As (fun U => U.heap.size = H.size ∧ va_P D vwCl wc U.heap ∧ va_K D vwCl [(cA, .int), (cL, .long)] U ∧ va_D (fun _ => True) wc ∧ xE (va_A wc H.size) U U.heap)) :=
    fun a U g mk q => by obtain ⟨q0, q1, qP, qK, qD, qE⟩ := q; exact ⟨q0, q1, qP, va_K.moved (u := U) (U := U.calling g mk a) (Vm.Alike.refl U.vm) qK, qD, xE.moved (U := U.calling g mk a) (Vm.Alike.refl U.vm) qE⟩
  have hB : Back l R p e below s args y 3 8 (PreOf R R'.cells R'.slots _) (PostOf _ R'.cells R'.slots _) := va_backW (hh := hh) (bytes := cc') (maxL := nL') (ret := ret') hc hbl rfl rfl hR.1 hR.2 (pay_in hts hG) List.mem_cons_self (fun a' U hW => word_at hW (Or.inl (by first | rfl | simp [Cond.onTables, Cond.keeps, Cond.steady])) (hts _ w2))
  have hrun : va_Run p l e R s m args below meth c H locs k n R'.cells R'.slots (F0 m pc ls st0) st (xq D cA (va_A wc H.size) r w1 As.toArray) (va_A wc H.size) := by
    intro T hT X0
    obtain ⟨mk, methM, cM, hnamed, hmethM, -, -, -, -, -, -, hsigM⟩ := Cond.codeWith_spec (hts _ w1')
    have hstatic : methM.isStatic = true := Cond.static_spec hnamed hmethM (hts _ w4)
    obtain ⟨kP, hkP, -⟩ := className_of_methodNamed hnamed
    have hinitP : kP.init = .initialized := Cond.initialized_spec (findClass_of_methodNamed hnamed) hkP (hts _ w2)
    have hlen : As.length = methM.sig.parameters.length := by
      have h2 := w5.2.2
      rw [hsigM] at h2
      exact (Option.some.inj h2).symm
    obtain ⟨vm₁, X₁, hstep₁⟩ := X0.invokestatic hx hown (hts _ w3) hnamed hmethM hstatic hkP hinitP ⟨w5.1, w5.2.1⟩ (g := F0 m pc ls st0) rfl (argsL := As) (rest := st) hlen hs0 (by rw [hb]; exact d)
    obtain ⟨v9, ⟨U', l2, c2, s2⟩, X', ⟨g', mk', t, L9, e1, e2, hq, h1, hL, h2, h3⟩, hsteps⟩ := hB m meth c ⟨T.setVm vm₁, locs, k, n⟩ (F0 m pc ls st) (.invokestatic ix) mk As.toArray X₁ rfl (hl.1.trans hml.symm) (by rw [hb]; exact d) (lv_room hst) (X₁.named hnamed)
      ⟨hkn.1, hkn.2, rfl, by show T.heap.size = _; rw [hT], by show va_P D vwCl wc T.heap; rw [hT]; exact hPc, va_K.moved X₁.warmed.alike hK, hDc.weaken (fun _ _ _ _ => trivial), by
        show xE (va_A wc H.size) (T.setVm vm₁) T.heap
        rw [hT]
        exact (hEH.narrow hF).moved X₁.warmed.alike⟩
    dsimp only [Pt.U, Pt.locs, Pt.cells, Pt.slots] at X' e1 e2 h1 h2 h3 hsteps
    subst h1; subst h2; subst h3
    exact ⟨v9, (T.setVm vm₁).calling g' mk' As.toArray, t, U', L9, hT, X', hL, e1, e2, hq, fun target h => hstep₁ _ fun acts => by rw [doInvoke_state]; exact hsteps.trans h⟩
  refine xs_after hrun hS (fun q _ h => hF q h) hF (fun H1 locs1 hP1 hD1 _ hk1 hS1 => ?_)
  obtain ⟨j1, j2⟩ := xjoin hP hD hk1 hF hP1 hD1
  exact kk v H1 locs1 ls j1 j2 hS1 hl
end XW
theorem xin01 : vp_in 0 1 := by unfold vp_in; decide
/-- the class's cells and the law's array for answers -/
abbrev wo (ad : Nat → Nat) (cA cL : ClassId) (o : Nat) (s : zT) (g : Nat → Int64) : va_W := wd ad cA s ++ [(o, .inl (cL, 1, .inr (.inl g)))]
