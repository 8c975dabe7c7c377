/-! MAKING: constructors, arrays -/
def xinit (X : xz_X) : Prop := match X with
  | (_, _, _, _, _, _, _, meth, _, _, _, _, _) => meth.name = "<init>"
def xqC (D : va_G) (cA : ClassId) (A : Nat → Prop) (w1 : (Nat → Nat) → va_W) : Array Value → State → Outcome → State → Prop := fun _ st oc t => (oc = .returned none ∧ ∃ ad : Nat → Nat, va_P D vwCl (w1 ad) t.heap ∧ va_K D vwCl [(cA, .int)] t ∧ va_D A (w1 ad)) ∧ va_F A st t
def xfinC (X : xz_X) (cA : ClassId) (k n : Nat) (w1 : (Nat → Nat) → va_W) : Prop := match X with
  | (_, _, _, s, _, args, below, _, _, D, A, Q, _) => Q = MQ below (xqC D cA A w1) args s k n A
def xctC (cA : ClassId) (y : MethodName) (cc : ByteArray) (nL : Nat) (R : Room) (av : List Value) (ws : va_W) (w1 : (Nat → Nat) → va_W) : Prop :=
  ∀ (l : Launch) (D : va_G) (sz : Nat), l.flags = flags0 → Met l y (.code y cc nL none :: xt_tbl) R (va_Pc av (fun U => U.heap.size = sz ∧ va_P D vwCl ws U.heap ∧ va_K D vwCl [(cA, .int)] U ∧ va_D (fun _ => True) ws)) (xqC D cA (va_A ws sz) w1) R.cells R.slots (va_A ws sz)
theorem xctC_of {cA : ClassId} {y : MethodName} {own : String} {cc : ByteArray} {nL : Nat} {R : Room} {av : List Value} {ws : va_W} {w1 : (Nat → Nat) → va_W}
    (hy : plainName y.cls = true) (hown : y.cls = own) (hyn : y.name = "<init>") (hn : (lg_sl av).length ≤ nL) (body : ∀ X : xz_X, xfinC X cA R.cells R.slots w1 → xinit X → xs X cA own cc nL none R ws 0 0 0 (lv_args 0 av) []) : xctC cA y cc nL R av ws w1 := by
  intro l D sz hfl
  refine Met.ofW (cc := cc) (maxL := nL) (ret := none) hy rfl ?_
  intro p e s m args below meth c s₁ B hml hv
  obtain ⟨rfl, hsz, hP, hK, hD0⟩ := hv
  have hts := atoms_spec (ws := .code y cc nL none :: xt_tbl) B.pre
  have hfc : s.vm.findClass own = some m.cls := by rw [← hown]; exact findClass_of_methodNamed B.named
  have hin : meth.name = "<init>" := (name_of_methodNamed B.named B.method).1.trans hyn
  subst hsz
  have hD := hD0.self (sz := s.heap.size)
  have hl := lv_entry av (n := nL) hn
  rw [lg_entry_eq]
  exact body (p, l, e, s, m, av.toArray, below, meth, c, D, va_A ws s.heap.size, MQ below (xqC D cA (va_A ws s.heap.size) w1) av.toArray s R.cells R.slots (va_A ws s.heap.size), []) rfl hin
    ⟨⟨B.exec, B.bytes, hml, hfc, fun w hw => hts w (List.mem_cons_of_mem _ hw)⟩, hK, fun q h => Or.inr h, B.notSynchronized, B.returns, hfl, xa_ns hP⟩ s.heap [] _ hP hD va_S.rf hl
def xwI (own : String) (ix : Nat) (y : MethodName) (cc : ByteArray) (nL : Nat) : Prop := xw own ix y cc nL none 0 ∧ Cond.instanceMethod y ∈ xt_tbl ∧ y.name = "<init>"
section XK
variable {X : xz_X} {cA : ClassId} {own : String} {cc : ByteArray} {nL : Nat} {ret : Option FieldType} {R : Room} {ws wc wr : va_W} {k n pc : Nat} {L : List (Nat × Value)} {st st0 : List Value}
theorem xs_vretC {w1 : (Nat → Nat) → va_W} (ad : Nat → Nat) (hX : xfinC X cA k n w1) (hr : ret = none) (d : decode cc pc = .ok (.return_, 1)) (hw : ws = w1 ad) : xs X cA own cc nL ret R ws k n pc L [] := by
  obtain ⟨p, l, e, s, m, args, below, meth, c, D, A, Q, ty2⟩ := X
  subst hw
  intro v H locs ls hP hD hS hl
  obtain ⟨⟨hx, hb, hml, hown, hts⟩, hK, hA, hlk, hrr, hfl, hns⟩ := v
  cases (show Q = _ from hX)
  exact W.vret hx hb (hrr.trans hr) (fun t ht hW => ⟨⟨rfl, ad, by rw [ht]; exact hP, va_K.moved hW.alike (hK.sub (tys' := [(cA, .int)]) [0] rfl), hD⟩, hS.F ht⟩) hS.2.2 d hlk
theorem xs_new {ix ci N : Nat} {C : String} {T : u_T} {fs : List Value} (ty : Nat → FieldType) (d : decode cc pc = .ok (.new ix, 3)) (hin : ∀ w ∈ u_ws C T N, w ∈ xt_tbl) (hty : ∀ k, k < N → parseFieldDescriptor (T k).2.2.1 = some (ty k)) (hcl : Cond.classLink own ix C ∈ xt_tbl) (hinst : Cond.instantiable C N ∈ xt_tbl) (hini : Cond.initialized C ∈ xt_tbl) (hc : vwCl[ci]? = some (C, T, N)) (hfs : ∀ j, j < N → defaultValue (ty j) = vp_V fs j) (hk : k + 1 ≤ R.cells) (hn : n + N ≤ R.slots)
    (kk : ∀ q : Nat, xs X cA own cc nL ret R (ws ++ [(q, .inr (ci, fs))]) (k + 1) (n + N) (pc + 3) L (.ref q :: st)) : xs X cA own cc nL ret R ws k n pc L st := by
  obtain ⟨p, l, e, s, m, args, below, meth, c, D, A, Q, ty2⟩ := X
  intro v H locs ls hP hD hS hl
  obtain ⟨⟨hx, hb, hml, hown, hts⟩, hK, hA, hlk, hrr, hfl, hns⟩ := id v
  exact va_new hx hb hts hin ty hty hown (hts _ hcl) (hts _ hinst) (hts _ hini) hK hP hD hS hA hc hfs hk hn d (fun q H1 hP1 hD1 hS1 => kk q v H1 locs ls hP1 hD1 hS1 hl)
theorem xs_newa {z : Int32} {N : Nat} (d : decode cc pc = .ok (.newarray .int, 2)) (harr : Cond.arrayClass .int ∈ xt_tbl) (hz : ¬ z < 0) (hN : z.toNatClampNeg = N) (hbt : N * 4 ≤ 536870912) (hk : k + 1 ≤ R.cells) (hn : n + N ≤ R.slots)
    (kk : ∀ q : Nat, xs X cA own cc nL ret R (ws ++ [(q, .inl (cA, N, .inl (fun _ => 0)))]) (k + 1) (n + N) (pc + 2) L (.ref q :: st)) : xs X cA own cc nL ret R ws k n pc L (.int z :: st) := by
  obtain ⟨p, l, e, s, m, args, below, meth, c, D, A, Q, ty2⟩ := X
  intro v H locs ls hP hD hS hl
  obtain ⟨⟨hx, hb, hml, hown, hts⟩, hK, hA, hlk, hrr, hfl, hns⟩ := id v
  refine va_newa (atype := .int) (ty := .int) (a0 := (N, .inl (fun _ => 0))) hx hb (hts _ harr) rfl hK hP hD hS hA (fun _ => rfl) hz hN hbt hk hn d (fun q cA' H1 hK1 hP1 hD1 hS1 => ?_)
  have h1 := (hK1.2 ((cA, FieldType.int) :: ty2).length (cA', .int) (by rw [List.getElem?_append_right (Nat.le_refl _), Nat.sub_self]; rfl)).2
  have h2 := (hK.2 0 (cA, .int) rfl).2
  have e1 : cA' = cA := by
    have h1 : s.vm.findClass ("[" ++ FieldType.int.toString) = some cA' := h1
    have h2 : s.vm.findClass ("[" ++ FieldType.int.toString) = some cA := h2
    exact Option.some.inj (h1.symm.trans h2)
  subst e1
  exact kk q v H1 locs ls hP1 hD1 hS1 hl
theorem xs_newl {cL : ClassId} {z : Int32} {N : Nat} (hty : xty X = [(cL, .long)]) (d : decode cc pc = .ok (.newarray .long, 2)) (harr : Cond.arrayClass .long ∈ xt_tbl) (hz : ¬ z < 0) (hN : z.toNatClampNeg = N) (hbt : N * 8 ≤ 536870912) (hk : k + 1 ≤ R.cells) (hn : n + N ≤ R.slots)
    (kk : ∀ q : Nat, xs X cA own cc nL ret R (ws ++ [(q, .inl (cL, N, .inr (.inl (fun _ => 0))))]) (k + 1) (n + N) (pc + 2) L (.ref q :: st)) : xs X cA own cc nL ret R ws k n pc L (.int z :: st) := by
  obtain ⟨p, l, e, s, m, args, below, meth, c, D, A, Q, ty2⟩ := X
  have hty : ty2 = [(cL, .long)] := hty
  subst hty
  intro v H locs ls hP hD hS hl
  obtain ⟨⟨hx, hb, hml, hown, hts⟩, hK, hA, hlk, hrr, hfl, hns⟩ := id v
  refine va_newa (atype := .long) (ty := .long) (a0 := (N, .inr (.inl (fun _ => 0)))) hx hb (hts _ harr) rfl hK hP hD hS hA (fun _ => rfl) hz hN hbt hk hn d (fun q cA' H1 hK1 hP1 hD1 hS1 => ?_)
  have h1 := (hK1.2 2 (cA', .long) rfl).2
  have h2 := (hK.2 1 (cL, .long) rfl).2
  have e1 : cA' = cL := by
    have h1 : s.vm.findClass ("[" ++ FieldType.long.toString) = some cA' := h1
    have h2 : s.vm.findClass ("[" ++ FieldType.long.toString) = some cL := h2
    exact Option.some.inj (h1.symm.trans h2)
  subst e1
  exact kk q v H1 locs ls hP1 hD1 hS1 hl
theorem xs_putF {a ix ci N : Nat} {ref C : String} {T : u_T} {fs : List Value} {v : Value} {ty : FieldType} {w1 : va_W} (q0 f : Nat) (ty0 : Nat → FieldType) (hI : xinit X) (d : decode cc pc = .ok (.putfield ix, 3)) (he : ws[q0]? = some (a, .inr (ci, fs))) (hc : vwCl[ci]? = some (C, T, N)) (hin : ∀ w ∈ u_ws C T N, w ∈ xt_tbl) (hty : ∀ k, k < N → parseFieldDescriptor (T k).2.2.1 = some (ty0 k)) (hnm : ∀ a, a < N → ∀ b, b < N → a ≠ b → (T a).2.1 ≠ (T b).2.1) (hk : f < N) (hlink : Cond.fieldLink own ix ref (T f).2.1 (T f).2.2.1 ∈ xt_tbl) (hsame : (T f).1 = ref)
    (hfin : (T f).2.2.2 = true) (hdecl : (T f).1 = own) (hd : parseFieldDescriptor (T f).2.2.1 = some ty) (hn : narrow ty v = v) (hfit : fits ty v = true) (hl : f < fs.length) (hw : ws.set q0 (a, .inr (ci, fs.set f v)) = w1)
    (kk : xs X cA own cc nL ret R w1 k n (pc + 3) L st) : xs X cA own cc nL ret R ws k n pc L (v :: .ref a :: st) := by
  obtain ⟨p, l, e, s, m, args, below, meth, c, D, A, Q, ty2⟩ := X
  subst hw
  intro v H locs ls hP hD hS hll
  obtain ⟨⟨hx, hb, hml, hown, hts⟩, hK, hA, hlk, hr, hfl, hns⟩ := id v
  exact va_putF hx hb hts hin ty0 hty hnm hown hK hP hD hS q0 he hc f hk (hts _ hlink) (fun x h => by rw [← hsame]; exact h) hfin hI hdecl hd hn hfit hl d (fun H1 locs1 hP1 hD1 hS1 => kk v H1 locs1 ls hP1 hD1 hS1 hll)
theorem xs_objInit {ix a : Nat} (d : decode cc pc = .ok (.invokespecial ix, 3)) (hlink : Cond.methodLink own ix objectInit ∈ xt_tbl) (hinst : Cond.instanceMethod objectInit ∈ xt_tbl) (hcode : Cond.code objectInit ⟨#[0xb1]⟩ 1 none ∈ xt_tbl) (hf : 1 ≤ R.frames) (hlo : (st.map fun v => v.category).sum + 12 ≤ R.locals)
    (kk : xs X cA own cc nL ret R ws k n (pc + 3) L st) : xs X cA own cc nL ret R ws k n pc L (.ref a :: st) := by
  obtain ⟨p, l, e, s, m, args, below, meth, c, D, A, Q, ty2⟩ := X
  intro v H locs ls hP hD hS hl
  obtain ⟨⟨hx, hb, hml, hown, hts⟩, hK, hA, hlk, hr, hfl, hns⟩ := id v
  exact W.objInit hx hb hown (hts _ hlink) (hts _ hinst) (hts _ hcode) rfl (by rw [hml]; exact hl.1) rfl d hf (by show 2 * 0 + _ + 12 ≤ _; omega) (kk v H locs ls hP hD hS hl)
theorem xs_pk {ws' : va_W} (is : List Nat) (hn : va_nd is = true) (hs : is.map (fun i => ws[i]?) = ws'.map some) (kk : xs X cA own cc nL ret R ws' k n pc L st) : xs X cA own cc nL ret R ws k n pc L st := by
  obtain ⟨p, l, e, s, m, args, below, meth, c, D, A, Q, ty2⟩ := X
  intro v H locs ls hP hD hS hl
  have hf : is.filterMap (fun i => ws[i]?) = ws' := by
    have h1 : is.filterMap (fun i => ws[i]?) = (is.map (fun i => ws[i]?)).filterMap id := by rw [List.filterMap_map]; rfl
    rw [h1, hs, List.filterMap_map]
    exact List.filterMap_some
  exact kk v H locs ls (hP.sub is hf) (hD.sub is hn hs) hS hl
end XK
section XC2
variable {p : Program} {l : Launch} {e : Env} {R : Room} {s : State} {m : MethodId} {args : Array Value} {below : List Frame} {meth : Method} {c : Code} {H : Heap} {locs : List Loc} {cells slots : Nat} {Q : State → Prop}
variable {pc : Nat} {ls : Array Slot} {rest st0 : List Value} {a : Array Value} {A0 A1 : Nat → Prop} {H0 : Heap} {mc ms : Nat} {free : Addr → Prop} {D : va_G} {cA : ClassId} {w1 : (Nat → Nat) → va_W}
theorem xs_afterC (hr : va_Run p l e R s m args below meth c H locs cells slots mc ms (F0 m pc ls st0) rest (xqC D cA A1 w1 a) free) (hS : va_S A0 H0 H locs) (hA : ∀ q, q < H.size → A1 q → A0 q) (hf : ∀ q, free q → A0 q)
    (kk : ∀ (ad : Nat → Nat) (H1 : Heap) (locs1 : List Loc), va_P D vwCl (w1 ad) H1 → va_D A1 (w1 ad) → H.size ≤ H1.size → (∀ q : Nat, q < H.size → ¬ A1 q → H1[q]? = H[q]?) → va_S A0 H0 H1 locs1 → W p l e R s m args below meth c H1 locs1 (cells + mc) (slots + ms) Q (F0 m (pc + 3) ls rest)) : W p l e R s m args below meth c H locs cells slots Q (F0 m pc ls st0) := by
  intro T hT X
  obtain ⟨v, st₀, t, T', L, h0, X', hL, e1, e2, ⟨⟨hv, ad, hp, hkk, hd⟩, hz, hk⟩, st⟩ := hr T hT X
  cases hv
  rw [h0] at hz hk
  obtain ⟨t2, a1, b1⟩ := kk ad T'.heap (locs ++ L) (by rw [e1]; exact hp) hd (by rw [e1]; exact hz) (fun q h1 h2 => by rw [e1]; exact hk q h1 h2)
    ⟨Nat.le_trans hS.1 (by rw [e1]; exact hz), fun q h1 h2 => by rw [e1, hk q (Nat.lt_of_lt_of_le h1 hS.1) (fun z => h2 (hA q (Nat.lt_of_lt_of_le h1 hS.1) z))]; exact hS.2.1 q h1 h2, fun q hq => by
      rcases List.mem_append.mp hq with h | h
      · exact hS.2.2 q h
      · exact hf _ (hL q h)⟩ T' rfl X'
  exact ⟨t2, st t2 a1, b1⟩
end XC2
section XK2
variable {X : xz_X} {cA : ClassId} {own : String} {cc : ByteArray} {nL : Nat} {ret : Option FieldType} {R : Room} {ws wc wr : va_W} {k n pc : Nat} {L : List (Nat × Value)} {st : List Value}
/-- a constructor's call, over the first part of the world -/
theorem xs_callC {y : MethodName} {cc' : ByteArray} {nL' ix b : Nat} {R' : Room} {w1 : (Nat → Nat) → va_W} (hc : xctC cA y cc' nL' R' [.ref b] wc w1) (d : decode cc pc = .ok (.invokespecial ix, 3)) (hw : xwI own ix y cc' nL') (hR : xroom R' nL' R) (hst : (st.map fun v => v.category).sum ≤ 8) (hkn : k + R'.cells ≤ R.cells ∧ n + R'.slots ≤ R.slots)
    (kk : ∀ ad : Nat → Nat, xs X cA own cc nL ret R (w1 ad ++ wr) (k + R'.cells) (n + R'.slots) (pc + 3) L st) : xs X cA own cc nL ret R (wc ++ wr) k n pc L (.ref b :: st) := by
  obtain ⟨p, l, e, s, m, args, below, meth, c, D, A, Q, ty2⟩ := X
  intro v H locs ls hP hD hS hl
  obtain ⟨⟨hx, hb, hml, hown, hts⟩, hK, hA, hlk, hrr, hfl, hns⟩ := id v
  have hc := hc l D H.size hfl
  have hK1 : va_K D vwCl [(cA, .int)] s := hK.sub [0] rfl
  obtain ⟨⟨w1', w2, w3, w4⟩, w5, w6⟩ := hw
  have hPc := xP_l hP
  have hDc := xD_l hD
  have hF : ∀ q, va_A wc H.size q → A q := fun q h => by
    rcases h with ⟨j, e9, h⟩ | h
    · exact hDc.2 j _ h
    · exact hA q (Nat.le_trans hS.1 h)
  refine xs_afterC (va_runI (As := []) (rest := st) ⟨hx, hb, hml, hown, hts⟩ hc ⟨callB_of 0 hts (gl_code w1') rfl rfl rfl (hts _ w2) (hts _ w3) w4 hR, w6, hts _ w5⟩ ⟨xP_blind, fun U hU hW => ⟨rfl, by rw [hU], by rw [hU]; exact hPc, va_K.moved hW.alike hK1, hDc.weaken (fun _ _ _ _ => trivial)⟩⟩ rfl rfl hl.1 rfl (lv_room hst) d hkn) hS (fun q _ h => hF q h) hF (fun ad H1 locs1 hP1 hD1 _ hk1 hS1 => ?_)
  obtain ⟨j1, j2⟩ := xjoin hP hD hk1 hF hP1 hD1
  exact kk ad v H1 locs1 ls j1 j2 hS1 hl
end XK2
