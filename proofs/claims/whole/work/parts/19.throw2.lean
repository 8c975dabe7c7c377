def xAok (w : Cond) : Bool := (decide (w ∈ lw_tbl) && (k2_isCode w || goodWord w)) || decide (w ∈ xBad) || decide (w = xU1) || decide (w = xU2) || decide (w = xU3) || decide (w = xU4)
theorem xBad_args {U : State} {a : Array Value} {w : Cond} (hw : w ∈ xBad) (h : w.before #[] U = true) : w.before a U = true := by
  simp only [xBad, List.mem_cons, List.not_mem_nil, or_false] at hw
  rcases hw with rfl | rfl | rfl | rfl | rfl | rfl <;> exact va_tabs rfl rfl h
theorem xA_at {ws : List Cond} (h : ws.all xAok = true) {A : Nat → Prop} {args a' : Array Value} {s U : State} (hts : ∀ w ∈ xt_tbl, w.before args s = true) (hW : s.WarmedH U.vm) (hE : xE A U U.heap) : ∀ w ∈ ws, w.before a' U = true := by
  intro w hw
  have h1 := List.all_eq_true.mp h w hw
  simp only [xAok, Bool.or_eq_true, Bool.and_eq_true, decide_eq_true_eq] at h1
  rcases h1 with ((((⟨h1, h2⟩ | h1) | h1) | h1) | h1) | h1
  · have h3 := xt_of h1 (by rcases h2 with h2 | h2 <;> simp [h2])
    exact word_at hW (gl_all w h3).2 (hts w h3)
  · exact xBad_args h1 (hE.2.2.1 w h1)
  · rw [h1]; exact xZ_ref hE.1
  · rw [h1]; exact xZ_ref hE.2.1
  · rw [h1]; exact xLS_to hE.2.2.2.1
  · rw [h1]; exact xLS_to hE.2.2.2.2
theorem xsame_nil {s t : State} {k n : Nat} (h : s.sameButNew t [] k n) {q : Nat} {c : Cell} (hc : s.heap[q]? = some c) : t.heap[q]? = some c := by
  obtain ⟨c', h1, h2, h3, h4⟩ := h.2.2.2.2.2 q c hc
  have e : c'.slots = c.slots := Array.ext_getElem? (fun i => h4 i (by simp))
  rw [h1, h2, e]
/-- what a method's end tells that threw -/
def xFT (first : State) (o : Outcome) (t : State) (L : List Loc) (k n : Nat) : Prop := (∃ x, o = .threw x) ∧ first.WarmedH t.vm ∧ first.sameButNew ({ t with vm := first.vm } : State) L k n
def xMT (l : Launch) (y : MethodName) (ws : List Cond) (rm : Room) (Pc : Array Value → State → Prop) (Qc : Array Value → State → Outcome → State → Prop) (mc ms : Nat) (free : Addr → Prop) : Prop :=
  MetFree l y (headSpec ws rm) Pc (fun _ _ _ _ _ => True) (fun a st o t => Qc a st o t ∧ ∃ L, xFT st o t L mc ms ∧ ∀ q ∈ L, free q.base)
def xMQ (below : List Frame) (Qc : Array Value → State → Outcome → State → Prop) (a : Array Value) (s : State) (mc ms : Nat) (free : Addr → Prop) : State → Prop := fun t =>
  ∃ o, t.status = .running ∧ Ended t below o ∧ Qc a s o t ∧ ∃ L, xFT s o t L mc ms ∧ ∀ q ∈ L, free q.base
theorem xMT_ofW {l : Launch} {y : MethodName} {ws ws' : List Cond} {rm : Room} {Pc : Array Value → State → Prop} {Qc : Array Value → State → Outcome → State → Prop} {mc ms : Nat} {free : Addr → Prop} {cc : ByteArray} {maxL : Nat} {ret : Option FieldType}
    (hy : plainName y.cls = true) (hw : ws = Cond.code y cc maxL ret :: ws')
    (body : ∀ p e s m args below meth c s₁, BodyLoose p l y (headSpec ws rm) cc maxL ret e s m args below meth c s₁ → c.maxLocals = maxL → Pc args s →
      W p l e (headSpec ws rm).room s m args below meth c s.heap [] 0 0 (xMQ below Qc args s mc ms free) (entryFrame m args maxL)) : xMT l y ws rm Pc Qc mc ms free := by
  refine MetFree.of_bodyS (code := cc) (maxLocals := maxL) (ret := ret) hy ?_ ?_
  · intro args s m h hn
    obtain ⟨meth, c, h1, h2, h3, h4, h5, h6, -, -⟩ := Cond.code_spec hn (atoms_spec (ws := ws) h _ (by rw [hw]; exact List.mem_cons_self))
    exact ⟨meth, c, h1, h2, h3, h4, h5, h6⟩
  · intro p e s m args below meth c s₁ B hml hP _
    have hh0 : s₁.heap = s.heap := by rw [B.state]; rfl
    obtain ⟨t, a1, o, b1, b2, b3⟩ := body p e s m args below meth c s₁ B hml hP s₁ hh0 (Stand.of_body B)
    exact ⟨t, o, a1, b1, b2, ⟨b3.1, b3.2⟩⟩
/-- it threw an E; the world is as it was -/
def xqT (D : va_G) (A : Nat → Prop) (E : String) (w1 : va_W) : Array Value → State → Outcome → State → Prop := fun _ st oc t =>
  (∃ (a : Nat) (cell : Cell), oc = .threw a ∧ t.heap[a]? = some cell ∧ cell.vm = .none ∧ st.vm.findClass E = some cell.cls ∧ st.heap.size ≤ a ∧ va_P D vwCl w1 t.heap ∧ va_D A w1) ∧ va_F A st t
def xfinT (X : xz_X) (k n : Nat) (E : String) (w1 : va_W) : Prop := match X with
  | (_, _, _, s, _, args, below, _, _, D, A, Q, _) => Q = xMQ below (xqT D A E w1) args s k n A
/-- a method without handlers, at whose start an exception can be made -/
def xEX (X : xz_X) : Prop := match X with
  | (_, _, _, s, _, _, _, _, c, _, A, _, _) => xE A s s.heap ∧ c.exceptionTable.isEmpty = true
def xctT (cA : ClassId) (y : MethodName) (cc : ByteArray) (nL : Nat) (ret : Option FieldType) (R : Room) (av : List Value) (ws : va_W) (E : String) : Prop :=
  ∀ (l : Launch) (D : va_G) (sz : Nat), l.flags = flags0 → xMT l y (.code y cc nL ret :: xt_tbl) R (va_Pc av (fun U => U.heap.size = sz ∧ va_P D vwCl ws U.heap ∧ va_K D vwCl [(cA, .int)] U ∧ va_D (fun _ => True) ws ∧ xE (va_A ws sz) U U.heap)) (xqT D (va_A ws sz) E ws) R.cells R.slots (va_A ws sz)
theorem xctT_of {cA : ClassId} {y : MethodName} {own : String} {cc : ByteArray} {nL : Nat} {ret : Option FieldType} {R : Room} {av : List Value} {ws : va_W} {E : String}
    (hy : plainName y.cls = true) (hown : y.cls = own) (hn : (lg_sl av).length ≤ nL) (body : ∀ X : xz_X, xfinT X R.cells R.slots E ws → xEX X → xs X cA own cc nL ret R ws 0 0 0 (lv_args 0 av) []) : xctT cA y cc nL ret R av ws E := by
  intro l D sz hfl
  refine xMT_ofW (cc := cc) (maxL := nL) (ret := ret) hy rfl ?_
  intro p e s m args below meth c s₁ B hml hv
  obtain ⟨rfl, hsz, hP, hK, hD0, hE⟩ := hv
  have hts := atoms_spec (ws := .code y cc nL ret :: xt_tbl) B.pre
  have hfc : s.vm.findClass own = some m.cls := by rw [← hown]; exact findClass_of_methodNamed B.named
  subst hsz
  have hD := hD0.self (sz := s.heap.size)
  have hl := lv_entry av (n := nL) hn
  rw [lg_entry_eq]
  exact body (p, l, e, s, m, av.toArray, below, meth, c, D, va_A ws s.heap.size, xMQ below (xqT D (va_A ws s.heap.size) E ws) av.toArray s R.cells R.slots (va_A ws s.heap.size), []) rfl ⟨hE, B.noHandlers (hts _ List.mem_cons_self)⟩
    ⟨⟨B.exec, B.bytes, hml, hfc, fun w hw => hts w (List.mem_cons_of_mem _ hw)⟩, hK, fun q h => Or.inr h, B.notSynchronized, B.returns, hfl, xa_ns hP⟩ s.heap [] _ hP hD va_S.rf hl
abbrev xNm : List String := ["java/lang/RuntimeException", "java/lang/Exception"]
set_option maxHeartbeats 4000000 in
/-- 'throw new E()' -/
theorem xs_throw {X : xz_X} {cA : ClassId} {own : String} {cc : ByteArray} {nL : Nat} {ret : Option FieldType} {R : Room} {ws : va_W} {k n pc : Nat} {L : List (Nat × Value)} {E : String} {ix ic : Nat} (hX : xfinT X (k + 1) (n + 6) E ws) (hEx : xEX X)
    (d0 : decode cc pc = .ok (.new ix, 3)) (d1 : decode cc (pc + 3) = .ok (.dup, 1)) (d2 : decode cc (pc + 4) = .ok (.invokespecial ic, 3)) (d3 : decode cc (pc + 7) = .ok (.athrow, 1))
    (hcl : Cond.classLink own ix E ∈ xt_tbl) (hins : Cond.instantiable E 6 ∈ xt_tbl) (hini : Cond.initialized E ∈ xt_tbl) (hat : (Bundle.ownAtoms0 own ic E xNm).all xAok = true) (hfit : Bundle.fit E = true) (hR : k + 1 ≤ R.cells ∧ n + 6 ≤ R.slots ∧ 5 < R.frames ∧ 81 ≤ R.locals) : xs X cA own cc nL ret R ws k n pc L [] := by
  obtain ⟨p, l, e, s, m, args, below, meth, c, D, A, Q, ty2⟩ := X
  intro v H locs ls hP hD hS hl
  obtain ⟨⟨hx, hb, hml, hown, hts⟩, hK, hA, hlk, hr, hfl, hns⟩ := id v
  obtain ⟨hE, hnh⟩ := hEx
  cases (show Q = _ from hX)
  intro T hT X0
  have htr : e.platform.stackTraces = false := Launch.traces_off hfl X0.admits
  have X1 := xre_stand X0 (by omega) (by omega)
  have hW0 : s.WarmedH (xre s T).vm := State.WarmedH.refl s
  have hE' : xE A (xre s T) (xre s T).heap := by
    have h1 : xE A s H := hE.kept (fun a h1 h2 => hS.2.1 a h1 h2)
    rw [← hT] at h1
    exact h1.moved (Vm.Alike.refl s.vm)
  have hat' := xA_at (a' := args) hat hts hW0 hE'
  have hts' : ∀ w ∈ xt_tbl, w.before args (xre s T) = true := fun w hw => word_at hW0 (gl_all w hw).2 (hts w hw)
  obtain ⟨vm', cC, kC, h1, h2, h3, h4, X2, st⟩ := X1.newCold hx hown (hts' _ hcl) (hts' _ hins) (hts' _ hini) (g := F0 m pc ls []) rfl (by rw [hb]; exact d0) (by show 0 + 1 ≤ R.cells - k; omega) (by show 0 + 6 ≤ R.slots - n; omega)
  have hHs : T.heap.size = H.size := by rw [hT]
  have KW : W p l e { R with cells := R.cells - k, slots := R.slots - n } (xre s T) m args below meth c (H.push { cls := cC, slots := kC.instanceTypes.map defaultValue, vm := .none }) [] (0 + 1) (0 + 6) (xMQ below (xqT D A E ws) args s (k + 1) (n + 6) A) (F0 m (pc + 3) ls [.ref H.size]) := by
    refine lv_dup hx hb d1 rfl ?_
    intro T3 hT3 X3
    have hcellA : T3.heap[H.size]? = some (freshCell cC kC) := by rw [hT3]; simp
    obtain ⟨U, hst, hrun, hend, hWU, hsame, ce, hce, hoc⟩ := X3.ctorThrow0 hx htr (names := xNm) hown hfit (by decide) hat' (fun x hx => by cases hx) h1 h2 hcellA (by show T.heap.size ≤ H.size; rw [hHs]; exact Nat.le_refl _) (g := F0 m (pc + 3 + 1) ls [.ref H.size, .ref H.size]) rfl (hl.1.trans hml.symm) rfl rfl (rest := []) rfl (by rw [hb]; exact d2) (by rw [hb]; exact d3)
      (fun x hx => by
        have : c.exceptionTable = #[] := by simpa using hnh
        rw [this] at hx
        cases hx) (by show 2 + 3 < R.frames; omega) (by show _ ≤ R.locals; exact Nat.le_trans (Nat.le_of_ble_eq_true rfl) hR.2.2.2) hlk
    have hkeep : ∀ (q : Nat) (cl : Cell), H[q]? = some cl → U.heap[q]? = some cl := fun q cl hq => xsame_nil hsame (show T.heap[q]? = some cl by rw [hT]; exact hq)
    have hUs : H.size ≤ U.heap.size := by have := hsame.2.1; rw [show (xre s T).heap.size = H.size from hHs] at this; exact this
    have hk2 : ∀ q : Nat, q < H.size → U.heap[q]? = H[q]? := fun q hq => by
      have : H[q]? = some H[q] := Array.getElem?_eq_getElem hq
      rw [this]
      exact hkeep q _ this
    refine ⟨U, hst, .threw H.size, hrun, hend, ⟨⟨H.size, ce, rfl, hce, hoc.vm, hoc.cls, hS.1, fun j q hq => (hP j q hq).kept (hk2 q.1 ((hP j q hq).lt)), hD⟩, Nat.le_trans hS.1 hUs, fun q h1 h2 => by rw [hk2 q (Nat.lt_of_lt_of_le h1 hS.1)]; exact hS.2.1 q h1 h2⟩, locs, ⟨⟨_, rfl⟩, hWU, ?_⟩, hS.2.2⟩
    have := (xre_same X0).trans hsame
    rw [List.append_nil] at this
    exact this
  obtain ⟨t, a1, b1⟩ := KW _ (by show (T.heap.push _) = _; rw [hT]) X2
  exact ⟨t, st t (by rw [hHs]; exact a1), b1⟩
