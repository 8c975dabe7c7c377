theorem zs_clamp (a : zS) : (zs a).toNatClampNeg = a.val := nI_clamp (Nat.lt_trans a.isLt (by decide))
theorem zp_clamp (a : zP) : (zp a).toNatClampNeg = a.val := nI_clamp (Nat.lt_trans a.isLt (by decide))
theorem zs_in (a : zS) : vp_in (zs a) 2002 := vp_in_nI a.isLt (by decide)
theorem zp_in (a : zP) : vp_in (zp a) 4096 := vp_in_nI a.isLt (by decide)
theorem zs_eq {a b : zS} : zs a = zs b ↔ a = b := ⟨fun h => Fin.ext ((nI_eq (Nat.lt_trans a.isLt (by decide)) (Nat.lt_trans b.isLt (by decide))).mp h), fun h => by rw [h]⟩
theorem zp_eq {a b : zP} : zp a = zp b ↔ a = b := ⟨fun h => Fin.ext ((nI_eq (Nat.lt_trans a.isLt (by decide)) (Nat.lt_trans b.isLt (by decide))).mp h), fun h => by rw [h]⟩
theorem zs_0 {a : zS} : zs a = 0 ↔ a = 0 := zs_eq (a := a) (b := 0)
theorem zb_0 {b : Bool} : zb b = 0 ↔ b = false := by cases b <;> decide
theorem up_zs (s : zT) (r i : Nat) (v : zS) : upd (fun k => zs (s.1 r k)) i (zs v) = fun k => zs (zup (s.1 r) i v k) := by
  funext k
  unfold upd zup
  by_cases h : k = i
  · rw [if_pos h, if_pos h]
  · rw [if_neg h, if_neg h]
theorem up_zi (s : zT) (r i : Nat) (v : Int32) : upd (s.2 r) i v = zup (s.2 r) i v := rfl
theorem i32_m1 (x : Int32) : x + Int32.ofInt (-1) = x - 1 := by rw [Int32.sub_eq_add_neg]; rfl
theorem cnt_le {C : Int32} {i : Nat} (h : C.toNatClampNeg ≤ i) (hi : i < 2 ^ 31) : C ≤ nI i := by
  rw [Int32.le_iff_toInt_le, nI_toInt hi]
  have : C.toNatClampNeg = C.toInt.toNat := rfl
  omega
theorem cnt_lt31 (C : Int32) : C.toNatClampNeg < 2 ^ 31 := by
  have : C.toNatClampNeg = C.toInt.toNat := rfl
  have := Int32.toInt_lt C
  omega
theorem cnt_nle {C : Int32} {i : Nat} (h : i < C.toNatClampNeg) : ¬ C ≤ nI i := by
  have h31 := cnt_lt31 C
  rw [Int32.le_iff_toInt_le, nI_toInt (by omega)]
  have : C.toNatClampNeg = C.toInt.toNat := rfl
  omega
theorem kn_le {m i : Nat} (h : m ≤ i) (hi : i < 2 ^ 31) : nI m ≤ nI i := (nI_leI (by omega) hi).mpr h
theorem kn_nle {m i : Nat} (h : i < m) (hm : m < 2 ^ 31) : ¬ nI m ≤ nI i := fun q => by
  have := (nI_leI hm (by omega)).mp q
  omega
theorem zp_succ (p : zP) : zp p + 1 = nI (p.val + 1) := nI_1 p.val
theorem zp_of {i : Nat} (h : i < 4096) : zp (Fin.ofNat 4096 i) = nI i := by
  show nI (i % 4096) = nI i
  rw [Nat.mod_eq_of_lt h]
theorem rok_nI {s : zT} (hr : rok s) : ∃ r : Nat, 1 ≤ r ∧ r ≤ 4096 ∧ s.2 4 3 = nI r := by
  obtain ⟨e, he, hs⟩ := hr
  exact ⟨2 ^ (e + 4), Nat.one_le_two_pow, Nat.le_trans (Nat.pow_le_pow_right (by decide) (show e + 4 ≤ 12 by omega)) (by decide), hs⟩
theorem rok_le {s : zT} (h : rok s) : (s.2 4 3).toNatClampNeg ≤ 4096 := by
  obtain ⟨r, -, h2, e⟩ := rok_nI h
  rw [e, nI_clamp (by omega)]
  exact h2
section XS2
variable {X : xz_X} {cA : ClassId} {own : String} {cc : ByteArray} {nL : Nat} {ret : Option FieldType} {R : Room} {ws : va_W} {k n pc : Nat} {L : List (Nat × Value)} {st : List Value}
theorem xs_sub {L' : List (Nat × Value)} (ks : List Nat) (h : lv_pick L ks = L') (kk : xs X cA own cc nL ret R ws k n pc L' st) : xs X cA own cc nL ret R ws k n pc L st := by
  obtain ⟨p, l, e, s, m, args, below, meth, c, D, A, Q, ty2⟩ := X
  intro v H locs ls hP hD hS hl
  exact kk v H locs ls hP hD hS (lv_sub hl ks h)
theorem xs_sif_eq {a : zS} {off : Int} {t : Nat} (d : decode cc pc = .ok (.ifCond .eq off, 3)) (ht : (pc : Int) + off = (t : Int)) (kt : a = 0 → xs X cA own cc nL ret R ws k n t L st) (kf : ¬ a = 0 → xs X cA own cc nL ret R ws k n (pc + 3) L st) : xs X cA own cc nL ret R ws k n pc L (.int (zs a) :: st) :=
  xs_if_eq d ht (fun h => kt (zs_0.mp h)) (fun h => kf (fun q => h (zs_0.mpr q)))
theorem xs_sif_ne {a : zS} {off : Int} {t : Nat} (d : decode cc pc = .ok (.ifCond .ne off, 3)) (ht : (pc : Int) + off = (t : Int)) (kt : ¬ a = 0 → xs X cA own cc nL ret R ws k n t L st) (kf : a = 0 → xs X cA own cc nL ret R ws k n (pc + 3) L st) : xs X cA own cc nL ret R ws k n pc L (.int (zs a) :: st) :=
  xs_if_ne d ht (fun h => kt (fun q => h (zs_0.mpr q))) (fun h => kf (zs_0.mp h))
theorem xs_bif_eq {b : Bool} {off : Int} {t : Nat} (d : decode cc pc = .ok (.ifCond .eq off, 3)) (ht : (pc : Int) + off = (t : Int)) (kt : b = false → xs X cA own cc nL ret R ws k n t L st) (kf : b = true → xs X cA own cc nL ret R ws k n (pc + 3) L st) : xs X cA own cc nL ret R ws k n pc L (.int (zb b) :: st) :=
  xs_if_eq d ht (fun h => kt (zb_0.mp h)) (fun h => kf (by cases b; exact absurd (zb_0.mpr rfl) h; rfl))
theorem xs_bif_ne {b : Bool} {off : Int} {t : Nat} (d : decode cc pc = .ok (.ifCond .ne off, 3)) (ht : (pc : Int) + off = (t : Int)) (kt : b = true → xs X cA own cc nL ret R ws k n t L st) (kf : b = false → xs X cA own cc nL ret R ws k n (pc + 3) L st) : xs X cA own cc nL ret R ws k n pc L (.int (zb b) :: st) :=
  xs_if_ne d ht (fun h => kt (by cases b; exact absurd (zb_0.mpr rfl) h; rfl)) (fun h => kf (zb_0.mp h))
theorem xs_scmp_eq {a b : zS} {off : Int} {t : Nat} (d : decode cc pc = .ok (.if_icmp .eq off, 3)) (ht : (pc : Int) + off = (t : Int)) (kt : a = b → xs X cA own cc nL ret R ws k n t L st) (kf : ¬ a = b → xs X cA own cc nL ret R ws k n (pc + 3) L st) : xs X cA own cc nL ret R ws k n pc L (.int (zs b) :: .int (zs a) :: st) :=
  xs_icmp_eq d ht (fun h => kt (zs_eq.mp h)) (fun h => kf (fun q => h (zs_eq.mpr q)))
theorem xs_scmp_ne {a b : zS} {off : Int} {t : Nat} (d : decode cc pc = .ok (.if_icmp .ne off, 3)) (ht : (pc : Int) + off = (t : Int)) (kt : ¬ a = b → xs X cA own cc nL ret R ws k n t L st) (kf : a = b → xs X cA own cc nL ret R ws k n (pc + 3) L st) : xs X cA own cc nL ret R ws k n pc L (.int (zs b) :: .int (zs a) :: st) :=
  xs_icmp_ne d ht (fun h => kt (fun q => h (zs_eq.mpr q))) (fun h => kf (zs_eq.mp h))
theorem xs_pcmp_ne {a b : zP} {off : Int} {t : Nat} (d : decode cc pc = .ok (.if_icmp .ne off, 3)) (ht : (pc : Int) + off = (t : Int)) (kt : ¬ a = b → xs X cA own cc nL ret R ws k n t L st) (kf : a = b → xs X cA own cc nL ret R ws k n (pc + 3) L st) : xs X cA own cc nL ret R ws k n pc L (.int (zp b) :: .int (zp a) :: st) :=
  xs_icmp_ne d ht (fun h => kt (fun q => h (zp_eq.mpr q))) (fun h => kf (zp_eq.mp h))
theorem xs_iinc_n {i j : Nat} {L' : List (Nat × Value)} (q : Nat) (d : decode cc pc = .ok (.iinc i 1, 3)) (hj : L[q]? = some (i, .int (nI j))) (hn : i < nL) (hl : (i, Value.int (nI (j + 1))) :: L.filter (fun q => !(q.1 == i) && !(q.1 + 1 == i && q.2.category == 2)) = L') (kk : xs X cA own cc nL ret R ws k n (pc + 3) L' st) : xs X cA own cc nL ret R ws k n pc L st :=
  xs_iinc q d hj (nI_1 j) hn hl kk
theorem xs_iinc_1 {i : Nat} {x : Int32} {L' : List (Nat × Value)} (q : Nat) (d : decode cc pc = .ok (.iinc i 1, 3)) (hj : L[q]? = some (i, .int x)) (hn : i < nL) (hl : (i, Value.int (x + 1)) :: L.filter (fun q => !(q.1 == i) && !(q.1 + 1 == i && q.2.category == 2)) = L') (kk : xs X cA own cc nL ret R ws k n (pc + 3) L' st) : xs X cA own cc nL ret R ws k n pc L st :=
  xs_iinc q d hj rfl hn hl kk
theorem xs_iinc_p {i : Nat} {x : Int32} {L' : List (Nat × Value)} (q : Nat) (d : decode cc pc = .ok (.iinc i (-1), 3)) (hj : L[q]? = some (i, .int x)) (hn : i < nL) (hl : (i, Value.int (x - 1)) :: L.filter (fun q => !(q.1 == i) && !(q.1 + 1 == i && q.2.category == 2)) = L') (kk : xs X cA own cc nL ret R ws k n (pc + 3) L' st) : xs X cA own cc nL ret R ws k n pc L st :=
  xs_iinc q d hj (i32_m1 x) hn hl kk
theorem xs_top {x y : Int32} (h : x = y) (kk : xs X cA own cc nL ret R ws k n pc L (.int y :: st)) : xs X cA own cc nL ret R ws k n pc L (.int x :: st) := h ▸ kk
theorem xs_zret {a b : Bool} {w1 : va_W} (hX : xfin X cA k n (some (.int (zb b))) w1) (hr : ret = some .boolean) (d : decode cc pc = .ok (.ireturn, 1)) (hy : a = b) (hw : ws = w1) : xs X cA own cc nL ret R ws k n pc L [.int (zb a)] := by
  obtain ⟨p, l, e, s, m, args, below, meth, c, D, A, Q, ty2⟩ := X
  subst hy; subst hw
  intro v H locs ls hP hD hS hl
  obtain ⟨⟨hx, hb, hml, hown, hts⟩, hK, hA, hlk, hrr, hfl, hns⟩ := v
  cases (show Q = _ from hX)
  exact W.zret hx hb (hrr.trans hr) (by cases a <;> decide) (fun t ht hW => ⟨⟨rfl, by rw [ht]; exact hP, va_K.moved hW.alike (hK.sub (tys' := [(cA, .int)]) [0] rfl), hD⟩, hS.F ht⟩) hS.2.2 d hlk
end XS2
/-! CALLS -/
theorem gl_all : GoodIn xt_tbl xt_tbl := by
  intro w hw
  refine ⟨hw, ?_⟩
  rcases Bool.or_eq_true_iff.mp (List.mem_filter.mp hw).2 with h2 | h2
  · cases w <;> first | (simp [k2_isCode] at h2; done) | exact Or.inl rfl
  · exact good_of_word h2
theorem gl_code {w : Cond} (h : w ∈ xt_tbl) : GoodIn xt_tbl (w :: xt_tbl) := by
  intro v hv
  rcases List.mem_cons.mp hv with rfl | hv
  · exact gl_all _ h
  · exact gl_all _ hv
def xw (own : String) (ix : Nat) (y : MethodName) (cc : ByteArray) (nL : Nat) (ret : Option FieldType) (a : Nat) : Prop :=
  Cond.code y cc nL ret ∈ xt_tbl ∧ Cond.initialized y.cls ∈ xt_tbl ∧ Cond.methodLink own ix y ∈ xt_tbl ∧ (y.cls ≠ "java/lang/invoke/MethodHandle" ∧ y.cls ≠ "java/lang/invoke/VarHandle" ∧ (parseMethodDescriptor y.desc).map (fun d => d.parameters.length) = some a)
def xwV (own : String) (ix : Nat) (y : MethodName) (cc : ByteArray) (nL : Nat) (ret : Option FieldType) (a : Nat) : Prop := xw own ix y cc nL ret a ∧ Cond.instanceMethod y ∈ xt_tbl ∧ Cond.selects y.cls y y ∈ xt_tbl
def xwS (own : String) (ix : Nat) (y : MethodName) (cc : ByteArray) (nL : Nat) (ret : Option FieldType) (a : Nat) : Prop := xw own ix y cc nL ret a ∧ Cond.static y ∈ xt_tbl
abbrev xroom (R' : Room) (nL' : Nat) (R : Room) : Prop := R'.frames + 1 ≤ R.frames ∧ 8 + (nL' + 11) + R'.locals ≤ R.locals
theorem xP_blind {av : List Value} {ws : va_W} {D : va_G} {cA : ClassId} {sz : Nat} : FrameBlind (va_Pc av (fun U => U.heap.size = sz ∧ va_P D vwCl ws U.heap ∧ va_K D vwCl [(cA, .int)] U ∧ va_D (fun _ => True) ws)) :=
  fun a U g mk q => by obtain ⟨q0, q1, qP, qK, qD⟩ := q; exact ⟨q0, q1, qP, va_K.moved (u := U) (U := U.calling g mk a) (Vm.Alike.refl U.vm) qK, qD⟩
section XC
variable {p : Program} {l : Launch} {e : Env} {R : Room} {s : State} {m : MethodId} {args : Array Value} {below : List Frame} {meth : Method} {c : Code} {H : Heap} {locs : List Loc} {cells slots : Nat} {Q : State → Prop}
variable {pc : Nat} {ls : Array Slot} {rest st0 : List Value} {a : Array Value} {A0 A1 : Nat → Prop} {H0 : Heap} {mc ms : Nat} {free : Addr → Prop} {D : va_G} {cA : ClassId} {r : Option Value} {w1 : va_W}
theorem xs_after (hr : va_Run p l e R s m args below meth c H locs cells slots mc ms (F0 m pc ls st0) rest (xq D cA A1 r w1 a) free) (hS : va_S A0 H0 H locs) (hA : ∀ q, q < H.size → A1 q → A0 q) (hf : ∀ q, free q → A0 q)
    (kk : ∀ (H1 : Heap) (locs1 : List Loc), va_P D vwCl w1 H1 → va_D A1 w1 → H.size ≤ H1.size → (∀ q : Nat, q < H.size → ¬ A1 q → H1[q]? = H[q]?) → va_S A0 H0 H1 locs1 → W p l e R s m args below meth c H1 locs1 (cells + mc) (slots + ms) Q (F0 m (pc + 3) ls (r.toList ++ rest))) : W p l e R s m args below meth c H locs cells slots Q (F0 m pc ls st0) := by
  intro T hT X
  obtain ⟨v, st₀, t, T', L, h0, X', hL, e1, e2, ⟨⟨hv, hp, hkk, hd⟩, hz, hk⟩, st⟩ := hr T hT X
  cases hv
  rw [h0] at hz hk
  obtain ⟨t2, a1, b1⟩ := kk T'.heap (locs ++ L) (by rw [e1]; exact hp) hd (by rw [e1]; exact hz) (fun q h1 h2 => by rw [e1]; exact hk q h1 h2)
    ⟨Nat.le_trans hS.1 (by rw [e1]; exact hz), fun q h1 h2 => by rw [e1, hk q (Nat.lt_of_lt_of_le h1 hS.1) (fun z => h2 (hA q (Nat.lt_of_lt_of_le h1 hS.1) z))]; exact hS.2.1 q h1 h2, fun q hq => by
      rcases List.mem_append.mp hq with h | h
      · exact hS.2.2 q h
      · exact hf _ (hL q h)⟩ T' rfl X'
  exact ⟨t2, st t2 a1, b1⟩
end XC
section XS3
variable {X : xz_X} {cA : ClassId} {own : String} {cc : ByteArray} {nL : Nat} {ret : Option FieldType} {R : Room} {ws : va_W} {k n pc : Nat} {L : List (Nat × Value)} {st st0 : List Value}
/-- a call of a method of an object, over the whole world -/
theorem xs_call {y : MethodName} {cc' : ByteArray} {nL' ix ci N b : Nat} {ret' : Option FieldType} {R' : Room} {As : List Value} {r : Option Value} {w1 : va_W} {T : u_T} {fs : List Value} (q0 : Nat) (hc : xct cA y cc' nL' ret' R' (.ref b :: As) ws r w1) (h0 : R'.cells = 0) (h1 : R'.slots = 0) (d : decode cc pc = .ok (.invokevirtual ix, 3)) (hw : xwV own ix y cc' nL' ret' As.length) (hR : xroom R' nL' R)
    (he : ws[q0]? = some (b, .inr (ci, fs))) (hci : vwCl[ci]? = some (y.cls, T, N)) (hs0 : st0 = As.reverse ++ .ref b :: st) (hst : (st.map fun v => v.category).sum ≤ 8) (hkn : k ≤ R.cells ∧ n ≤ R.slots)
    (kk : xs X cA own cc nL ret R w1 k n (pc + 3) L (r.toList ++ st)) : xs X cA own cc nL ret R ws k n pc L st0 := by
  obtain ⟨p, l, e, s, m, args, below, meth, c, D, A, Q, ty2⟩ := X
  intro v H locs ls hP hD hS hl
  obtain ⟨⟨hx, hb, hml, hown, hts⟩, hK, hA, hlk, hrr, hfl, hns⟩ := id v
  have hc := hc l D H.size hfl
  have hK1 : va_K D vwCl [(cA, .int)] s := hK.sub [0] rfl
  rw [h0, h1] at hc
  obtain ⟨⟨w1', w2, w3, w4⟩, w5, w6⟩ := hw
  have hF : ∀ q, va_A ws H.size q → A q := fun q h => by
    rcases h with ⟨j, e9, h⟩ | h
    · exact hD.2 j _ h
    · exact hA q (Nat.le_trans hS.1 h)
  refine xs_after (va_runV (C := y.cls) (As := As) (rest := st) ⟨hx, hb, hml, hown, hts⟩ hc ⟨callB_of As.length hts (gl_code w1') rfl h0 h1 (hts _ w2) (hts _ w3) w4 hR, hts _ w5, hts _ w6⟩ ⟨xP_blind, va_recv hK hP hci he, fun U hU hW => ⟨rfl, by rw [hU], by rw [hU]; exact hP, va_K.moved hW.alike hK1, hD.weaken (fun _ _ _ _ => trivial)⟩⟩ rfl rfl hl.1 hs0 (lv_room hst) d hkn) hS (fun q _ h => hF q h) hF (fun H1 locs1 hP1 hD1 _ _ hS1 => ?_)
  exact kk v H1 locs1 ls hP1 (hD1.weaken (fun _ q _ h => hF q.1 h)) hS1 hl
theorem xs_callS {y : MethodName} {cc' : ByteArray} {nL' ix : Nat} {ret' : Option FieldType} {R' : Room} {As : List Value} {r : Option Value} {w1 : va_W} (hc : xct cA y cc' nL' ret' R' As ws r w1) (h0 : R'.cells = 0) (h1 : R'.slots = 0) (d : decode cc pc = .ok (.invokestatic ix, 3)) (hw : xwS own ix y cc' nL' ret' As.length) (hR : xroom R' nL' R)
    (hs0 : st0 = As.reverse ++ st) (hst : (st.map fun v => v.category).sum ≤ 8) (hkn : k ≤ R.cells ∧ n ≤ R.slots)
    (kk : xs X cA own cc nL ret R w1 k n (pc + 3) L (r.toList ++ st)) : xs X cA own cc nL ret R ws k n pc L st0 := by
  obtain ⟨p, l, e, s, m, args, below, meth, c, D, A, Q, ty2⟩ := X
  intro v H locs ls hP hD hS hl
  obtain ⟨⟨hx, hb, hml, hown, hts⟩, hK, hA, hlk, hrr, hfl, hns⟩ := id v
  have hc := hc l D H.size hfl
  have hK1 : va_K D vwCl [(cA, .int)] s := hK.sub [0] rfl
  rw [h0, h1] at hc
  obtain ⟨⟨w1', w2, w3, w4⟩, w5⟩ := hw
  have hF : ∀ q, va_A ws H.size q → A q := fun q h => by
    rcases h with ⟨j, e9, h⟩ | h
    · exact hD.2 j _ h
    · exact hA q (Nat.le_trans hS.1 h)
  refine xs_after (va_runS (As := As) (rest := st) ⟨hx, hb, hml, hown, hts⟩ hc ⟨callB_of As.length hts (gl_code w1') rfl h0 h1 (hts _ w2) (hts _ w3) w4 hR, hts _ w5⟩ ⟨xP_blind, fun U hU hW => ⟨rfl, by rw [hU], by rw [hU]; exact hP, va_K.moved hW.alike hK1, hD.weaken (fun _ _ _ _ => trivial)⟩⟩ rfl rfl hl.1 hs0 (lv_room hst) d hkn) hS (fun q _ h => hF q h) hF (fun H1 locs1 hP1 hD1 _ _ hS1 => ?_)
  exact kk v H1 locs1 ls hP1 (hD1.weaken (fun _ q _ h => hF q.1 h)) hS1 hl
end XS3
