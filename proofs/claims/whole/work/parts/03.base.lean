/-- the words that stand whatever is called -/
def xt_tbl : List Cond := lw_tbl.filter (fun w => k2_isCode w || goodWord w)
theorem xt_of {w : Cond} (h : w ∈ lw_tbl) (g : (k2_isCode w || goodWord w) = true) : w ∈ xt_tbl := List.mem_filter.mpr ⟨h, g⟩
theorem xt_in {w : Cond} (h : w ∈ xt_tbl) : w ∈ lw_tbl := (List.mem_filter.mp h).1
theorem xt_u {C : String} {T : u_T} {N : Nat} (h : ∀ w ∈ u_ws C T N, w ∈ lw_tbl) : ∀ w ∈ u_ws C T N, w ∈ xt_tbl := by
  intro w hw
  refine xt_of (h w hw) ?_
  obtain ⟨k, -, rfl⟩ := List.mem_map.mp hw
  unfold u_lay
  split <;> rfl
/-! THE WALKER'S OWN WORDS. xs: the machine, in a method whose names and room are given, with the world ws, at pc, with locals L and operands st, comes to where X asks. -/
abbrev xz_X : Type := Program × Launch × Env × State × MethodId × Array Value × List Frame × Method × Code × va_G × (Nat → Prop) × (State → Prop) × List (ClassId × FieldType)
/-- what holds of X all along the method -/
def xv (X : xz_X) (cA : ClassId) (own : String) (cc : ByteArray) (nL : Nat) (ret : Option FieldType) : Prop := match X with
  | (p, l, _, s, m, args, _, meth, c, D, A, _, ty2) => CallFix p m c cc nL s args xt_tbl own ∧ va_K D vwCl ((cA, .int) :: ty2) s ∧ (∀ q : Nat, s.heap.size ≤ q → A q) ∧ meth.locks = false ∧ meth.sig.returnType = ret ∧ l.flags = flags0 ∧ ∀ (q : Nat) (cell : Cell), A q → s.heap[q]? = some cell → cell.vm.isStatics = false
def xs (X : xz_X) (cA : ClassId) (own : String) (cc : ByteArray) (nL : Nat) (ret : Option FieldType) (R : Room) (ws : va_W) (k n pc : Nat) (L : List (Nat × Value)) (st : List Value) : Prop :=
  xv X cA own cc nL ret → match X with
  | (p, l, e, s, m, args, below, meth, c, D, A, Q, _) => ∀ (H : Heap) (locs : List Loc) (ls : Array Slot), va_P D vwCl ws H → va_D A ws → va_S A s.heap H locs → lv_has ls nL L → W p l e R s m args below meth c H locs k n Q (F0 m pc ls st)
/-- the method's end: it returns r, the world is w1 -/
def xq (D : va_G) (cA : ClassId) (A : Nat → Prop) (r : Option Value) (w1 : va_W) : Array Value → State → Outcome → State → Prop := fun _ st oc t => (oc = .returned r ∧ va_P D vwCl w1 t.heap ∧ va_K D vwCl [(cA, .int)] t ∧ va_D A w1) ∧ va_F A st t
def xfin (X : xz_X) (cA : ClassId) (k n : Nat) (r : Option Value) (w1 : va_W) : Prop := match X with
  | (_, _, _, s, _, args, below, _, _, D, A, Q, _) => Q = MQ below (xq D cA A r w1) args s k n A
/-- a contract: from the world ws and the arguments av it returns r, and the world is w1 -/
def xct (cA : ClassId) (y : MethodName) (cc : ByteArray) (nL : Nat) (ret : Option FieldType) (R : Room) (av : List Value) (ws : va_W) (r : Option Value) (w1 : va_W) : Prop :=
  ∀ (l : Launch) (D : va_G) (sz : Nat), l.flags = flags0 → Met l y (.code y cc nL ret :: xt_tbl) R (va_Pc av (fun U => U.heap.size = sz ∧ va_P D vwCl ws U.heap ∧ va_K D vwCl [(cA, .int)] U ∧ va_D (fun _ => True) ws)) (xq D cA (va_A ws sz) r w1) R.cells R.slots (va_A ws sz)
/-- cells of a world are no cells of statics -/
theorem xa_ns {D : va_G} {ws : va_W} {H : Heap} (hP : va_P D vwCl ws H) : ∀ (q : Nat) (cell : Cell), va_A ws H.size q → H[q]? = some cell → cell.vm.isStatics = false := by
  intro q cell hA hc
  rcases hA with ⟨k, e, h⟩ | h
  · have h1 := hP k _ h
    cases e with
    | inl x =>
      have h2 : H[q]? = some (vp_cell x.1 x.2) := h1
      rw [hc] at h2
      cases h2
      unfold vp_cell
      split <;> rfl
    | inr o =>
      obtain ⟨r, -, cell', g1, g2, g3, -⟩ := h1
      rw [hc] at g1
      cases g1
      rw [g3]
      rfl
  · rw [Array.getElem?_eq_none h] at hc
    cases hc
theorem xct_of {cA : ClassId} {y : MethodName} {own : String} {cc : ByteArray} {nL : Nat} {ret : Option FieldType} {R : Room} {av : List Value} {ws : va_W} {r : Option Value} {w1 : va_W}
    (hy : plainName y.cls = true) (hown : y.cls = own) (hn : (lg_sl av).length ≤ nL) (body : ∀ X : xz_X, xfin X cA R.cells R.slots r w1 → xs X cA own cc nL ret R ws 0 0 0 (lv_args 0 av) []) : xct cA y cc nL ret R av ws r w1 := by
  intro l D sz hfl
  refine Met.ofW (cc := cc) (maxL := nL) (ret := ret) hy rfl ?_
  intro p e s m args below meth c s₁ B hml hv
  obtain ⟨rfl, hsz, hP, hK, hD0⟩ := hv
  have hts := atoms_spec (ws := .code y cc nL ret :: xt_tbl) B.pre
  have hfc : s.vm.findClass own = some m.cls := by rw [← hown]; exact findClass_of_methodNamed B.named
  subst hsz
  have hD := hD0.self (sz := s.heap.size)
  have hl := lv_entry av (n := nL) hn
  rw [lg_entry_eq]
  exact body (p, l, e, s, m, av.toArray, below, meth, c, D, va_A ws s.heap.size, MQ below (xq D cA (va_A ws s.heap.size) r w1) av.toArray s R.cells R.slots (va_A ws s.heap.size), []) rfl
    ⟨⟨B.exec, B.bytes, hml, hfc, fun w hw => hts w (List.mem_cons_of_mem _ hw)⟩, hK, fun q h => Or.inr h, B.notSynchronized, B.returns, hfl, xa_ns hP⟩ s.heap [] _ hP hD va_S.rf hl
section XS
variable {X : xz_X} {cA : ClassId} {own : String} {cc : ByteArray} {nL : Nat} {ret : Option FieldType} {R : Room} {ws : va_W} {k n pc : Nat} {L : List (Nat × Value)} {st : List Value}
/-- an instruction that changes the operands alone -/
theorem xs_op {pc' : Nat} {st' : List Value} (h : ∀ {p : Program} {l : Launch} {e : Env} {s : State} {m : MethodId} {args : Array Value} {below : List Frame} {meth : Method} {c : Code} {Q : State → Prop} {H : Heap} {locs : List Loc} {ls : Array Slot}, CallFix p m c cc nL s args xt_tbl own → lv_has ls nL L → W p l e R s m args below meth c H locs k n Q (F0 m pc' ls st') → W p l e R s m args below meth c H locs k n Q (F0 m pc ls st))
    (kk : xs X cA own cc nL ret R ws k n pc' L st') : xs X cA own cc nL ret R ws k n pc L st := by
  obtain ⟨p, l, e, s, m, args, below, meth, c, D, A, Q, ty2⟩ := X
  intro v H locs ls hP hD hS hl
  exact h v.1 hl (kk v H locs ls hP hD hS hl)
/-- an instruction that changes the locals -/
theorem xs_lo {pc' : Nat} {L' : List (Nat × Value)} {st' : List Value} (h : ∀ {p : Program} {l : Launch} {e : Env} {s : State} {m : MethodId} {args : Array Value} {below : List Frame} {meth : Method} {c : Code} {Q : State → Prop} {H : Heap} {locs : List Loc} {ls : Array Slot}, CallFix p m c cc nL s args xt_tbl own → lv_has ls nL L → (∀ ls' : Array Slot, lv_has ls' nL L' → W p l e R s m args below meth c H locs k n Q (F0 m pc' ls' st')) → W p l e R s m args below meth c H locs k n Q (F0 m pc ls st))
    (kk : xs X cA own cc nL ret R ws k n pc' L' st') : xs X cA own cc nL ret R ws k n pc L st := by
  obtain ⟨p, l, e, s, m, args, below, meth, c, D, A, Q, ty2⟩ := X
  intro v H locs ls hP hD hS hl
  exact h v.1 hl (fun ls' hl' => kk v H locs ls' hP hD hS hl')
/-- a branch -/
theorem xs_br {P : Prop} {pt pf : Nat} {st' : List Value} (h : ∀ {p : Program} {l : Launch} {e : Env} {s : State} {m : MethodId} {args : Array Value} {below : List Frame} {meth : Method} {c : Code} {Q : State → Prop} {H : Heap} {locs : List Loc} {ls : Array Slot}, CallFix p m c cc nL s args xt_tbl own → (P → W p l e R s m args below meth c H locs k n Q (F0 m pt ls st')) → (¬ P → W p l e R s m args below meth c H locs k n Q (F0 m pf ls st')) → W p l e R s m args below meth c H locs k n Q (F0 m pc ls st))
    (kt : P → xs X cA own cc nL ret R ws k n pt L st') (kf : ¬ P → xs X cA own cc nL ret R ws k n pf L st') : xs X cA own cc nL ret R ws k n pc L st := by
  obtain ⟨p, l, e, s, m, args, below, meth, c, D, A, Q, ty2⟩ := X
  intro v H locs ls hP hD hS hl
  exact h v.1 (fun q => kt q v H locs ls hP hD hS hl) (fun q => kf q v H locs ls hP hD hS hl)
-- constants
theorem xs_iconst {z : Int} {v : Int32} (d : decode cc pc = .ok (.iconst z, 1)) (hv : Int32.ofInt z = v) (kk : xs X cA own cc nL ret R ws k n (pc + 1) L (.int v :: st)) : xs X cA own cc nL ret R ws k n pc L st :=
  xs_op (fun S _ K => lv_iconst S.1 S.2.1 d hv K) kk
theorem xs_bipush {z : Int} {v : Int32} (d : decode cc pc = .ok (.bipush z, 2)) (hv : (Int8.ofInt z).toInt32 = v) (kk : xs X cA own cc nL ret R ws k n (pc + 2) L (.int v :: st)) : xs X cA own cc nL ret R ws k n pc L st :=
  xs_op (fun S _ K => lv_bipush S.1 S.2.1 d hv K) kk
theorem xs_sipush {z : Int} {v : Int32} (d : decode cc pc = .ok (.sipush z, 3)) (hv : (Int16.ofInt z).toInt32 = v) (kk : xs X cA own cc nL ret R ws k n (pc + 3) L (.int v :: st)) : xs X cA own cc nL ret R ws k n pc L st :=
  xs_op (fun S _ K => lv_sipush S.1 S.2.1 d hv K) kk
theorem xs_ldc {ix : Nat} {v : Int32} (d : decode cc pc = .ok (.ldc ix, 2)) (hw : Jvm.Cond.constant own ix v ∈ xt_tbl) (kk : xs X cA own cc nL ret R ws k n (pc + 2) L (.int v :: st)) : xs X cA own cc nL ret R ws k n pc L st :=
  xs_op (fun S _ K => lv_ldc S.1 S.2.1 S.2.2.2.1 (S.2.2.2.2 _ hw) d K) kk
theorem xs_ldc2 {ix : Nat} {v : Int64} (d : decode cc pc = .ok (.ldc2_w ix, 3)) (hw : Jvm.Cond.constantLong own ix v ∈ xt_tbl) (kk : xs X cA own cc nL ret R ws k n (pc + 3) L (.long v :: st)) : xs X cA own cc nL ret R ws k n pc L st :=
  xs_op (fun S _ K => lv_ldc2 S.1 S.2.1 S.2.2.2.1 (S.2.2.2.2 _ hw) d K) kk
-- locals
theorem xs_iload_n {i : Fin 4} {x : Int32} (j : Nat) (d : decode cc pc = .ok (.iload_n i, 1)) (h : L[j]? = some ((i : Nat), .int x)) (kk : xs X cA own cc nL ret R ws k n (pc + 1) L (.int x :: st)) : xs X cA own cc nL ret R ws k n pc L st :=
  xs_op (fun S hl K => lv_iload_n S.1 S.2.1 d rfl (lv_at hl j h) K) kk
theorem xs_iload {i : Nat} {x : Int32} (j : Nat) (d : decode cc pc = .ok (.iload i, 2)) (h : L[j]? = some (i, .int x)) (kk : xs X cA own cc nL ret R ws k n (pc + 2) L (.int x :: st)) : xs X cA own cc nL ret R ws k n pc L st :=
  xs_op (fun S hl K => lv_iload S.1 S.2.1 d (lv_at hl j h) K) kk
theorem xs_aload_n {i : Fin 4} {x : Nat} (j : Nat) (d : decode cc pc = .ok (.aload_n i, 1)) (h : L[j]? = some ((i : Nat), .ref x)) (kk : xs X cA own cc nL ret R ws k n (pc + 1) L (.ref x :: st)) : xs X cA own cc nL ret R ws k n pc L st :=
  xs_op (fun S hl K => lv_aload_n S.1 S.2.1 d rfl (lv_at hl j h) K) kk
theorem xs_aload {i : Nat} {x : Nat} (j : Nat) (d : decode cc pc = .ok (.aload i, 2)) (h : L[j]? = some (i, .ref x)) (kk : xs X cA own cc nL ret R ws k n (pc + 2) L (.ref x :: st)) : xs X cA own cc nL ret R ws k n pc L st :=
  xs_op (fun S hl K => lv_aload S.1 S.2.1 d (lv_at hl j h) K) kk
theorem xs_istore_n {i : Fin 4} {x : Int32} {L' : List (Nat × Value)} (d : decode cc pc = .ok (.istore_n i, 1)) (hn : (i : Nat) < nL) (hl : ((i : Nat), Value.int x) :: L.filter (fun q => !(q.1 == (i : Nat)) && !(q.1 + 1 == (i : Nat) && q.2.category == 2)) = L') (kk : xs X cA own cc nL ret R ws k n (pc + 1) L' st) : xs X cA own cc nL ret R ws k n pc L (.int x :: st) :=
  xs_lo (fun S h K => lv_istore_n S.1 S.2.1 d rfl h hn hl K) kk
theorem xs_istore {i : Nat} {x : Int32} {L' : List (Nat × Value)} (d : decode cc pc = .ok (.istore i, 2)) (hn : i < nL) (hl : (i, Value.int x) :: L.filter (fun q => !(q.1 == i) && !(q.1 + 1 == i && q.2.category == 2)) = L') (kk : xs X cA own cc nL ret R ws k n (pc + 2) L' st) : xs X cA own cc nL ret R ws k n pc L (.int x :: st) :=
  xs_lo (fun S h K => lv_istore S.1 S.2.1 d h hn hl K) kk
theorem xs_iinc {i : Nat} {z : Int} {x v : Int32} {L' : List (Nat × Value)} (j : Nat) (d : decode cc pc = .ok (.iinc i z, 3)) (hj : L[j]? = some (i, .int x)) (hv : x + Int32.ofInt z = v) (hn : i < nL) (hl : (i, Value.int v) :: L.filter (fun q => !(q.1 == i) && !(q.1 + 1 == i && q.2.category == 2)) = L') (kk : xs X cA own cc nL ret R ws k n (pc + 3) L' st) : xs X cA own cc nL ret R ws k n pc L st :=
  xs_lo (fun S h K => lv_iinc S.1 S.2.1 d h hj hv hn hl K) kk
-- operands
theorem xs_dup {va : Value} (d : decode cc pc = .ok (.dup, 1)) (hc : va.category = 1) (kk : xs X cA own cc nL ret R ws k n (pc + 1) L (va :: va :: st)) : xs X cA own cc nL ret R ws k n pc L (va :: st) :=
  xs_op (fun S _ K => lv_dup S.1 S.2.1 d hc K) kk
theorem xs_iadd {x y : Int32} (d : decode cc pc = .ok (.iadd, 1)) (kk : xs X cA own cc nL ret R ws k n (pc + 1) L (.int (x + y) :: st)) : xs X cA own cc nL ret R ws k n pc L (.int y :: .int x :: st) :=
  xs_op (fun S _ K => lv_iadd S.1 S.2.1 d K) kk
theorem xs_isub {x y : Int32} (d : decode cc pc = .ok (.isub, 1)) (kk : xs X cA own cc nL ret R ws k n (pc + 1) L (.int (x - y) :: st)) : xs X cA own cc nL ret R ws k n pc L (.int y :: .int x :: st) :=
  xs_op (fun S _ K => lv_isub S.1 S.2.1 d K) kk
theorem xs_imul {x y : Int32} (d : decode cc pc = .ok (.imul, 1)) (kk : xs X cA own cc nL ret R ws k n (pc + 1) L (.int (x * y) :: st)) : xs X cA own cc nL ret R ws k n pc L (.int y :: .int x :: st) :=
  xs_op (fun S _ K => lv_imul S.1 S.2.1 d K) kk
theorem xs_iand {x y : Int32} (d : decode cc pc = .ok (.iand, 1)) (kk : xs X cA own cc nL ret R ws k n (pc + 1) L (.int (x &&& y) :: st)) : xs X cA own cc nL ret R ws k n pc L (.int y :: .int x :: st) :=
  xs_op (fun S _ K => lv_iand S.1 S.2.1 d K) kk
theorem xs_ixor {x y : Int32} (d : decode cc pc = .ok (.ixor, 1)) (kk : xs X cA own cc nL ret R ws k n (pc + 1) L (.int (x ^^^ y) :: st)) : xs X cA own cc nL ret R ws k n pc L (.int y :: .int x :: st) :=
  xs_op (fun S _ K => lv_ixor S.1 S.2.1 d K) kk
theorem xs_iushr {x y : Int32} (d : decode cc pc = .ok (.iushr, 1)) (kk : xs X cA own cc nL ret R ws k n (pc + 1) L (.int (x.toUInt32 >>> (y.toUInt32 &&& Int32.toUInt32 31)).toInt32 :: st)) : xs X cA own cc nL ret R ws k n pc L (.int y :: .int x :: st) :=
  xs_op (fun S _ K => lv_iushr S.1 S.2.1 d rfl K) kk
theorem xs_i2l {x : Int32} (d : decode cc pc = .ok (.i2l, 1)) (kk : xs X cA own cc nL ret R ws k n (pc + 1) L (.long x.toInt64 :: st)) : xs X cA own cc nL ret R ws k n pc L (.int x :: st) :=
  xs_op (fun S _ K => lv_i2l S.1 S.2.1 d rfl K) kk
-- jumps
theorem xs_goto {off : Int} {t : Nat} (d : decode cc pc = .ok (.goto off, 3)) (ht : (pc : Int) + off = (t : Int)) (kk : xs X cA own cc nL ret R ws k n t L st) : xs X cA own cc nL ret R ws k n pc L st :=
  xs_op (fun S _ K => lv_goto S.1 S.2.1 d ht K) kk
theorem xs_if_eq {x : Int32} {off : Int} {t : Nat} (d : decode cc pc = .ok (.ifCond .eq off, 3)) (ht : (pc : Int) + off = (t : Int)) (kt : x = 0 → xs X cA own cc nL ret R ws k n t L st) (kf : ¬ x = 0 → xs X cA own cc nL ret R ws k n (pc + 3) L st) : xs X cA own cc nL ret R ws k n pc L (.int x :: st) :=
  xs_br (fun S a b => lv_if_eq S.1 S.2.1 d ht a b) kt kf
theorem xs_if_ne {x : Int32} {off : Int} {t : Nat} (d : decode cc pc = .ok (.ifCond .ne off, 3)) (ht : (pc : Int) + off = (t : Int)) (kt : ¬ x = 0 → xs X cA own cc nL ret R ws k n t L st) (kf : x = 0 → xs X cA own cc nL ret R ws k n (pc + 3) L st) : xs X cA own cc nL ret R ws k n pc L (.int x :: st) :=
  xs_br (P := ¬ x = 0) (fun S a b => lv_if_ne S.1 S.2.1 d ht a (fun h => b (fun z => z h))) kt (fun h => kf (Classical.byContradiction h))
theorem xs_if_lt {x : Int32} {off : Int} {t : Nat} (d : decode cc pc = .ok (.ifCond .lt off, 3)) (ht : (pc : Int) + off = (t : Int)) (kt : x < 0 → xs X cA own cc nL ret R ws k n t L st) (kf : ¬ x < 0 → xs X cA own cc nL ret R ws k n (pc + 3) L st) : xs X cA own cc nL ret R ws k n pc L (.int x :: st) :=
  xs_br (fun S a b => lv_if_lt S.1 S.2.1 d ht a b) kt kf
theorem xs_if_ge {x : Int32} {off : Int} {t : Nat} (d : decode cc pc = .ok (.ifCond .ge off, 3)) (ht : (pc : Int) + off = (t : Int)) (kt : 0 ≤ x → xs X cA own cc nL ret R ws k n t L st) (kf : ¬ 0 ≤ x → xs X cA own cc nL ret R ws k n (pc + 3) L st) : xs X cA own cc nL ret R ws k n pc L (.int x :: st) :=
  xs_br (fun S a b => lv_if_ge S.1 S.2.1 d ht a b) kt kf
theorem xs_icmp_eq {x y : Int32} {off : Int} {t : Nat} (d : decode cc pc = .ok (.if_icmp .eq off, 3)) (ht : (pc : Int) + off = (t : Int)) (kt : x = y → xs X cA own cc nL ret R ws k n t L st) (kf : ¬ x = y → xs X cA own cc nL ret R ws k n (pc + 3) L st) : xs X cA own cc nL ret R ws k n pc L (.int y :: .int x :: st) :=
  xs_br (fun S a b => lv_icmp_eq S.1 S.2.1 d ht a b) kt kf
theorem xs_icmp_ne {x y : Int32} {off : Int} {t : Nat} (d : decode cc pc = .ok (.if_icmp .ne off, 3)) (ht : (pc : Int) + off = (t : Int)) (kt : ¬ x = y → xs X cA own cc nL ret R ws k n t L st) (kf : x = y → xs X cA own cc nL ret R ws k n (pc + 3) L st) : xs X cA own cc nL ret R ws k n pc L (.int y :: .int x :: st) :=
  xs_br (P := ¬ x = y) (fun S a b => lv_icmp_ne S.1 S.2.1 d ht a (fun h => b (fun z => z h))) kt (fun h => kf (Classical.byContradiction h))
theorem xs_icmp_lt {x y : Int32} {off : Int} {t : Nat} (d : decode cc pc = .ok (.if_icmp .lt off, 3)) (ht : (pc : Int) + off = (t : Int)) (kt : x < y → xs X cA own cc nL ret R ws k n t L st) (kf : ¬ x < y → xs X cA own cc nL ret R ws k n (pc + 3) L st) : xs X cA own cc nL ret R ws k n pc L (.int y :: .int x :: st) :=
  xs_br (fun S a b => lv_icmp_lt S.1 S.2.1 d ht a b) kt kf
theorem xs_icmp_ge {x y : Int32} {off : Int} {t : Nat} (d : decode cc pc = .ok (.if_icmp .ge off, 3)) (ht : (pc : Int) + off = (t : Int)) (kt : y ≤ x → xs X cA own cc nL ret R ws k n t L st) (kf : ¬ y ≤ x → xs X cA own cc nL ret R ws k n (pc + 3) L st) : xs X cA own cc nL ret R ws k n pc L (.int y :: .int x :: st) :=
  xs_br (fun S a b => lv_icmp_ge S.1 S.2.1 d ht a b) kt kf
theorem xs_icmp_gt {x y : Int32} {off : Int} {t : Nat} (d : decode cc pc = .ok (.if_icmp .gt off, 3)) (ht : (pc : Int) + off = (t : Int)) (kt : y < x → xs X cA own cc nL ret R ws k n t L st) (kf : ¬ y < x → xs X cA own cc nL ret R ws k n (pc + 3) L st) : xs X cA own cc nL ret R ws k n pc L (.int y :: .int x :: st) :=
  xs_br (fun S a b => lv_icmp_gt S.1 S.2.1 d ht a b) kt kf
theorem xs_icmp_le {x y : Int32} {off : Int} {t : Nat} (d : decode cc pc = .ok (.if_icmp .le off, 3)) (ht : (pc : Int) + off = (t : Int)) (kt : x ≤ y → xs X cA own cc nL ret R ws k n t L st) (kf : ¬ x ≤ y → xs X cA own cc nL ret R ws k n (pc + 3) L st) : xs X cA own cc nL ret R ws k n pc L (.int y :: .int x :: st) :=
  xs_br (fun S a b => lv_icmp_le S.1 S.2.1 d ht a b) kt kf
theorem xs_lookup {dflt : Int} {ps : Array (Int × Int)} {len : Nat} {x : Int32} {off : Int} {t : Nat} (d : decode cc pc = .ok (.lookupswitch dflt ps, len)) (hp : (ps.toList.zip (ps.toList.drop 1)).all (fun (a, next) => a.1 < next.1) = true) (ho : Op.lookupswitch.offset ps.toList dflt x.toInt = off) (ht : (pc : Int) + off = (t : Int)) (kk : xs X cA own cc nL ret R ws k n t L st) : xs X cA own cc nL ret R ws k n pc L (.int x :: st) :=
  xs_op (fun S _ K => lv_lookup S.1 S.2.1 d hp ho ht K) kk
-- fields and arrays
theorem xs_get {a ix ci N : Nat} {ref C : String} {T : u_T} {fs : List Value} {v : Value} (q0 f : Nat) (d : decode cc pc = .ok (.getfield ix, 3)) (he : ws[q0]? = some (a, .inr (ci, fs))) (hc : vwCl[ci]? = some (C, T, N)) (hin : ∀ w ∈ u_ws C T N, w ∈ xt_tbl) (hk : f < N) (hlink : Cond.fieldLink own ix ref (T f).2.1 (T f).2.2.1 ∈ xt_tbl) (hsame : (T f).1 = ref) (hv : fs[f]? = some v)
    (kk : xs X cA own cc nL ret R ws k n (pc + 3) L (v :: st)) : xs X cA own cc nL ret R ws k n pc L (.ref a :: st) := by
  obtain ⟨p, l, e, s, m, args, below, meth, c, D, A, Q, ty2⟩ := X
  intro v H locs ls hP hD hS hl
  obtain ⟨⟨hx, hb, hml, hown, hts⟩, hK, hA, hlk, hr, hfl, hns⟩ := id v
  exact va_get hx hb hts hin hown hK hP q0 he hc f hk (hts _ hlink) (fun x h => by rw [← hsame]; exact h) hv d (kk v H locs ls hP hD hS hl)
theorem xs_put {a ix ci N : Nat} {ref C : String} {T : u_T} {fs : List Value} {v : Value} {ty : FieldType} {w1 : va_W} (q0 f : Nat) (ty0 : Nat → FieldType) (d : decode cc pc = .ok (.putfield ix, 3)) (he : ws[q0]? = some (a, .inr (ci, fs))) (hc : vwCl[ci]? = some (C, T, N)) (hin : ∀ w ∈ u_ws C T N, w ∈ xt_tbl) (hty : ∀ k, k < N → parseFieldDescriptor (T k).2.2.1 = some (ty0 k)) (hnm : ∀ a, a < N → ∀ b, b < N → a ≠ b → (T a).2.1 ≠ (T b).2.1) (hk : f < N) (hlink : Cond.fieldLink own ix ref (T f).2.1 (T f).2.2.1 ∈ xt_tbl) (hsame : (T f).1 = ref)
    (hfin : (T f).2.2.2 = false) (hd : parseFieldDescriptor (T f).2.2.1 = some ty) (hn : narrow ty v = v) (hfit : fits ty v = true) (hl : f < fs.length) (hw : ws.set q0 (a, .inr (ci, fs.set f v)) = w1)
    (kk : xs X cA own cc nL ret R w1 k n (pc + 3) L st) : xs X cA own cc nL ret R ws k n pc L (v :: .ref a :: st) := by
  obtain ⟨p, l, e, s, m, args, below, meth, c, D, A, Q, ty2⟩ := X
  subst hw
  intro v H locs ls hP hD hS hll
  obtain ⟨⟨hx, hb, hml, hown, hts⟩, hK, hA, hlk, hr, hfl, hns⟩ := id v
  exact va_put hx hb hts hin ty0 hty hnm hown hK hP hD hS q0 he hc f hk (hts _ hlink) (fun x h => by rw [← hsame]; exact h) hfin hd hn hfit hl d (fun H1 locs1 hP1 hD1 hS1 => kk v H1 locs1 ls hP1 hD1 hS1 hll)
theorem xs_iald {a N : Nat} {f : Nat → Int32} {i x : Int32} (q0 : Nat) (d : decode cc pc = .ok (.iaload, 1)) (he : ws[q0]? = some (a, .inl (cA, N, .inl f))) (hi : vp_in i N) (hv : f i.toNatClampNeg = x)
    (kk : xs X cA own cc nL ret R ws k n (pc + 1) L (.int x :: st)) : xs X cA own cc nL ret R ws k n pc L (.int i :: .ref a :: st) := by
  obtain ⟨p, l, e, s, m, args, below, meth, c, D, A, Q, ty2⟩ := X
  subst hv
  intro v H locs ls hP hD hS hl
  obtain ⟨⟨hx, hb, hml, hown, hts⟩, hK, hA, hlk, hr, hfl, hns⟩ := id v
  exact va_iald hx hb hK hP q0 0 he rfl hi d (kk v H locs ls hP hD hS hl)
theorem xs_iast {a N : Nat} {f : Nat → Int32} {i x : Int32} {w1 : va_W} (q0 : Nat) (d : decode cc pc = .ok (.iastore, 1)) (he : ws[q0]? = some (a, .inl (cA, N, .inl f))) (hi : vp_in i N) (hw : ws.set q0 (a, .inl (cA, N, .inl (upd f i.toNatClampNeg x))) = w1)
    (kk : xs X cA own cc nL ret R w1 k n (pc + 1) L st) : xs X cA own cc nL ret R ws k n pc L (.int x :: .int i :: .ref a :: st) := by
  obtain ⟨p, l, e, s, m, args, below, meth, c, D, A, Q, ty2⟩ := X
  subst hw
  intro v H locs ls hP hD hS hl
  obtain ⟨⟨hx, hb, hml, hown, hts⟩, hK, hA, hlk, hr, hfl, hns⟩ := id v
  exact va_iast hx hb hK hP hD hS q0 0 he rfl hi d (fun H1 locs1 hP1 hD1 hS1 => kk v H1 locs1 ls hP1 hD1 hS1 hl)
-- the ends
theorem xs_iret {x y : Int32} {w1 : va_W} (hX : xfin X cA k n (some (.int y)) w1) (hr : ret = some .int) (d : decode cc pc = .ok (.ireturn, 1)) (hy : x = y) (hw : ws = w1) : xs X cA own cc nL ret R ws k n pc L [.int x] := by
  obtain ⟨p, l, e, s, m, args, below, meth, c, D, A, Q, ty2⟩ := X
  subst hy; subst hw
  intro v H locs ls hP hD hS hl
  obtain ⟨⟨hx, hb, hml, hown, hts⟩, hK, hA, hlk, hrr, hfl, hns⟩ := v
  cases (show Q = _ from hX)
  exact W.iret hx hb (hrr.trans hr) (fun t ht hW => ⟨⟨rfl, by rw [ht]; exact hP, va_K.moved hW.alike (hK.sub (tys' := [(cA, .int)]) [0] rfl), hD⟩, hS.F ht⟩) hS.2.2 d hlk
theorem xs_vret {w1 : va_W} (hX : xfin X cA k n none w1) (hr : ret = none) (d : decode cc pc = .ok (.return_, 1)) (hw : ws = w1) : xs X cA own cc nL ret R ws k n pc L [] := by
  obtain ⟨p, l, e, s, m, args, below, meth, c, D, A, Q, ty2⟩ := X
  subst hw
  intro v H locs ls hP hD hS hl
  obtain ⟨⟨hx, hb, hml, hown, hts⟩, hK, hA, hlk, hrr, hfl, hns⟩ := v
  cases (show Q = _ from hX)
  exact W.vret hx hb (hrr.trans hr) (fun t ht hW => ⟨⟨rfl, by rw [ht]; exact hP, va_K.moved hW.alike (hK.sub (tys' := [(cA, .int)]) [0] rfl), hD⟩, hS.F ht⟩) hS.2.2 d hlk
theorem xs_lret {x y : Int64} {w1 : va_W} (hX : xfin X cA k n (some (.long y)) w1) (hr : ret = some .long) (d : decode cc pc = .ok (.lreturn, 1)) (hy : x = y) (hw : ws = w1) : xs X cA own cc nL ret R ws k n pc L [.long x] := by
  obtain ⟨p, l, e, s, m, args, below, meth, c, D, A, Q, ty2⟩ := X
  subst hy; subst hw
  intro v H locs ls hP hD hS hl
  obtain ⟨⟨hx, hb, hml, hown, hts⟩, hK, hA, hlk, hrr, hfl, hns⟩ := v
  cases (show Q = _ from hX)
  exact W.lret hx hb (hrr.trans hr) (fun t ht hW => ⟨⟨rfl, by rw [ht]; exact hP, va_K.moved hW.alike (hK.sub (tys' := [(cA, .int)]) [0] rfl), hD⟩, hS.F ht⟩) hS.2.2 d hlk
end XS
