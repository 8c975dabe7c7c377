/-! THE LAW'S LOOP, AND ITS BEGINNING -/
def xlaw (X : xz_X) (b : Nat) : Prop := match X with
  | (_, _, _, s, _, args, below, _, _, _, A, Q, _) => args = #[Value.ref b] ∧ Q = lw_Z below #[Value.ref b] s ∧ ∀ q, A q → s.heap.size ≤ q
theorem xs_lawret {X : xz_X} {cA : ClassId} {b k n pc : Nat} {ws : va_W} {L : List (Nat × Value)} (hL : xlaw X b) (hk : k ≤ 1053) (hn : n ≤ 50707) (d : decode code pc = .ok (.ireturn, 1)) : xs X cA RL code 8 ret room_1 ws k n pc L [.int 1] := by
  obtain ⟨p, l, e, s, m, args, below, meth, c, D, A, Q, ty2⟩ := X
  intro v H locs ls hP hD hS hl
  obtain ⟨⟨hx, hb, hml, hown, hts⟩, hK, hA, hlk, hrr, hfl, hns⟩ := v
  obtain ⟨e1, e2, e3⟩ := (show args = #[Value.ref b] ∧ Q = lw_Z below #[Value.ref b] s ∧ ∀ q, A q → s.heap.size ≤ q from hL)
  subst e1; subst e2
  refine va_forget (fun q hq => e3 _ (hS.2.2 q hq)) ?_
  refine W.widen hk hn ?_
  exact lw_ret hx hb hrr hlk d
set_option maxHeartbeats 4000000 in
set_option maxRecDepth 100000 in
theorem lw_loop {X : xz_X} {cA cL : ClassId} {ad am : Nat → Nat} {b o N : Nat} {f : Nat → Int32} (hty : xty X = [(cL, .long)]) (hE : xEl X) (hX : xscr X b N f) (hN : N ≤ 2048) (hL : xlaw X b) :
    ∀ (r j : Nat) (s : zT) (m : zM) (kv : List (Int32 × Int32)) (g : Nat → Int64), j + r = 513 → Rl s m kv → xs X cA RL code 8 ret room_1 (wo ad cA cL o s g ++ wm am cA m) (23 + j) (42479 + 6 * j) 23 [(4, .int (nI (4 * j))), (3, .ref o), (2, .ref (am 0)), (1, .ref (ad 0)), (0, .ref b)] [] := by
  intro r
  induction r with
  | zero =>
    intro j s m kv g hj h
    refine xs_iload 0 dL_law_23 rfl ?_
    refine xs_aload_n 4 dL_law_25 rfl ?_
    refine xs_slen hX dL_law_26 ?_
    refine xs_iconst (v := 4) dL_law_27 (by decide) ?_
    refine xs_isub dL_law_28 ?_
    refine xs_icmp_gt (t := 602) dL_law_29 (by decide) (fun c => ?_) (fun c => absurd ((sub4 hN (by omega)).mpr (by omega)) c)
    refine xs_iconst (v := 1) dL_law_602 (by decide) ?_
    exact xs_lawret hL (by omega) (by omega) dL_law_603
  | succ r ih =>
    intro j s m kv g hj h
    refine xs_iload 0 dL_law_23 rfl ?_
    refine xs_aload_n 4 dL_law_25 rfl ?_
    refine xs_slen hX dL_law_26 ?_
    refine xs_iconst (v := 4) dL_law_27 (by decide) ?_
    refine xs_isub dL_law_28 ?_
    refine xs_icmp_gt (t := 602) dL_law_29 (by decide) (fun c => ?_) (fun c => ?_)
    · refine xs_iconst (v := 1) dL_law_602 (by decide) ?_
      exact xs_lawret hL (by omega) (by omega) dL_law_603
    · have hi : 4 * j + 4 ≤ N := Nat.not_lt.mp (fun q => c ((sub4 hN (by omega)).mpr q))
      refine xs_aload_n 4 dL_law_32 rfl ?_
      refine xs_iload 0 dL_law_33 rfl ?_
      refine xs_sld hX hN dL_law_35 (by omega) ?_
      refine xs_bipush (v := 15) dL_law_36 (by decide) ?_
      refine xs_iand dL_law_38 ?_
      refine lw_switch hty hE hX hN hi (by omega) (by omega) (fun s m kv g k' n' h hk hn => ?_) h
      refine xs_widen (k' := 23 + (j + 1)) (n' := 42479 + 6 * (j + 1)) (by omega) (by omega) ?_
      refine xs_iinc (v := nI (4 * (j + 1))) (L' := [(4, _), (3, _), (2, _), (1, _), (0, _)]) 0 dL_law_596 rfl (nI_add (4 * j) 4) (by decide) rfl ?_
      refine xs_goto (t := 23) dL_law_599 (by decide) ?_
      exact ih (j + 1) s m kv g (by omega) h
set_option maxRecDepth 100000 in
theorem nl_L_X3 : Cond.classLink RL 8 RX3 ∈ xt_tbl := xt_of (by decide +kernel) rfl
set_option maxRecDepth 100000 in
theorem nl_L_X4 : Cond.classLink RL 38 RX4 ∈ xt_tbl := xt_of (by decide +kernel) rfl
set_option maxRecDepth 100000 in
theorem ni_X3 : Cond.instantiable RX3 5 ∈ xt_tbl := xt_of (by decide +kernel) rfl
set_option maxRecDepth 100000 in
theorem ni_X4 : Cond.instantiable RX4 10 ∈ xt_tbl := xt_of (by decide +kernel) rfl
set_option maxRecDepth 100000 in
theorem nz_X3 : Cond.initialized RX3 ∈ xt_tbl := xt_of (by decide +kernel) rfl
set_option maxRecDepth 100000 in
theorem nz_X4 : Cond.initialized RX4 ∈ xt_tbl := xt_of (by decide +kernel) rfl
set_option maxRecDepth 100000 in
theorem ac_long : Cond.arrayClass .long ∈ xt_tbl := xt_of (by decide +kernel) rfl
set_option maxRecDepth 100000 in
theorem kI_L_X3 : xwI RL 37 yX3_init cX3_init 1 := ⟨⟨xt_of (List.mem_of_getElem? (i := 53) rfl) rfl, xt_of (by decide +kernel) rfl, xt_of (by decide +kernel) rfl, by decide +kernel⟩, xt_of (by decide +kernel) rfl, rfl⟩
set_option maxRecDepth 100000 in
theorem kI_L_X4 : xwI RL 40 yX4_init cX4_init 1 := ⟨⟨xt_of (List.mem_of_getElem? (i := 554) rfl) rfl, xt_of (by decide +kernel) rfl, xt_of (by decide +kernel) rfl, by decide +kernel⟩, xt_of (by decide +kernel) rfl, rfl⟩
set_option maxHeartbeats 4000000 in
set_option maxRecDepth 100000 in
theorem lw_begin {X : xz_X} {cA cL : ClassId} {b N : Nat} {f : Nat → Int32} (hty : xty X = [(cL, .long)]) (hE : xEl X) (hX : xscr X b N f) (hN : N ≤ 2048) (hL : xlaw X b) : xs X cA RL code 8 ret room_1 [] 0 0 0 [(0, .ref b)] [] := by
  refine xs_new (ci := 3) (fs := [.null, .null, .null, .int 0, .int 0]) tyX3 dL_law_0 (xt_u iX3) tyX3_ok nl_L_X3 ni_X3 nz_X3 rfl (fun j hj => by rcases (show j = 0 ∨ j = 1 ∨ j = 2 ∨ j = 3 ∨ j = 4 by omega) with rfl | rfl | rfl | rfl | rfl <;> rfl) (Nat.le_of_ble_eq_true rfl) (Nat.le_of_ble_eq_true rfl) (fun x => ?_)
  refine xs_dup dL_law_3 rfl ?_
  refine xs_ws (w1 := [(x, .inr (3, [.null, .null, .null, .int 0, .int 0]))] ++ []) rfl ?_
  refine xs_callC (c_BM_init cA x) dL_law_4 kI_L_X3 ⟨Nat.le_of_ble_eq_true rfl, Nat.le_of_ble_eq_true rfl⟩ (Nat.le_of_ble_eq_true rfl) ⟨Nat.le_of_ble_eq_true rfl, Nat.le_of_ble_eq_true rfl⟩ (fun ad => ?_)
  refine xs_ws (List.append_nil _) ?_
  refine xs_astore_n (L' := [(1, _), (0, _)]) dL_law_7 (by decide) rfl ?_
  refine xs_new (ci := 4) (fs := [.int 0, .int 0, .int 0, .int 0, .int 0, .int 0, .null, .null, .null, .null]) tyX4 dL_law_8 (xt_u iX4) tyX4_ok nl_L_X4 ni_X4 nz_X4 rfl (fun j hj => by rcases (show j = 0 ∨ j = 1 ∨ j = 2 ∨ j = 3 ∨ j = 4 ∨ j = 5 ∨ j = 6 ∨ j = 7 ∨ j = 8 ∨ j = 9 by omega) with rfl | rfl | rfl | rfl | rfl | rfl | rfl | rfl | rfl | rfl <;> rfl) (Nat.le_of_ble_eq_true rfl) (Nat.le_of_ble_eq_true rfl) (fun y => ?_)
  refine xs_dup dL_law_11 rfl ?_
  refine xs_swap ?_
  refine xs_callC (c_Mo_init cA y) dL_law_12 kI_L_X4 ⟨Nat.le_of_ble_eq_true rfl, Nat.le_of_ble_eq_true rfl⟩ (Nat.le_of_ble_eq_true rfl) ⟨Nat.le_of_ble_eq_true rfl, Nat.le_of_ble_eq_true rfl⟩ (fun am => ?_)
  refine xs_swap ?_
  refine xs_astore_n (L' := [(2, _), (1, _), (0, _)]) dL_law_15 (by decide) rfl ?_
  refine xs_iconst (v := 1) dL_law_16 (by decide) ?_
  refine xs_newl (N := 1) hty dL_law_17 ac_long (by decide) (by decide) (by decide) (Nat.le_of_ble_eq_true rfl) (Nat.le_of_ble_eq_true rfl) (fun o => ?_)
  refine xs_pk (ws' := wo (zup ad 0 x) cA cL o s00 (fun _ => 0) ++ wm (zup am 0 y) cA m00) [0, 1, 2, 3, 4, 5, 6, 7, 8, 9, 10, 11, 12, 13, 14, 15, 16, 22, 17, 18, 19, 20, 21] (by decide) rfl ?_
  refine xs_astore_n (L' := [(3, _), (2, _), (1, _), (0, _)]) dL_law_19 (by decide) rfl ?_
  refine xs_iconst (v := nI 0) dL_law_20 rfl ?_
  refine xs_istore (L' := [(4, _), (3, _), (2, _), (1, _), (0, _)]) dL_law_21 (by decide) rfl ?_
  exact lw_loop (ad := zup ad 0 x) (am := zup am 0 y) hty hE hX hN hL 513 0 s00 m00 [] (fun _ => 0) rfl Rl_00
theorem xBad_arg0 {s : State} {a : Array Value} {w : Cond} (hw : w ∈ xBad) (hs : w.before a s = true) : w.before #[] s = true := by
  simp only [xBad, List.mem_cons, List.not_mem_nil, or_false] at hw
  rcases hw with rfl | rfl | rfl | rfl | rfl | rfl <;> exact va_tabs rfl rfl hs
set_option maxHeartbeats 4000000 in
set_option maxRecDepth 100000 in
/-- THE LAW, from its entry -/
theorem whole_start {p : Program} {e : Env} {s : State} {m : MethodId} {below : List Frame} {meth : Method} {c : Code} (l : Launch) (hfl : l.flags = flags0) {b L : Nat} {f : Nat → Int32} (hL : L ≤ 2048) (C0 : lw_At p s m meth c b L f) : W p l e room_1 s m #[Value.ref b] below meth c s.heap [] 0 0 (lw_Z below #[Value.ref b] s) (entryFrame m ([Value.ref b] : List Value).toArray 8) := by
  obtain ⟨hx, hb, hr, hml, hown, hts, hX, hbl, hlocks, hgv⟩ := id C0
  have hA0 : ∀ a : Nat, a < s.heap.size → ¬ (fun q : Nat => s.heap.size ≤ q) a := fun a h => Nat.not_le.mpr h
  obtain ⟨c0, i0, k0⟩ := u_known (C := RX0) (T := TX0) (N := 7) (n := 7) hts iX0 (hts (.instantiable RX0 7) (by decide +kernel))
  obtain ⟨c1, i1, k1⟩ := u_known (C := RX1) (T := TX1) (N := 7) (n := 7) hts iX1 (hts (.instantiable RX1 7) (by decide +kernel))
  obtain ⟨c2, i2, k2⟩ := u_known (C := RX2) (T := TX2) (N := 5) (n := 5) hts iX2 (hts (.instantiable RX2 5) (by decide +kernel))
  obtain ⟨c3, i3, k3⟩ := u_known (C := RX3) (T := TX3) (N := 5) (n := 5) hts iX3 (hts (.instantiable RX3 5) (by decide +kernel))
  obtain ⟨c4, i4, k4⟩ := u_known (C := RX4) (T := TX4) (N := 10) (n := 10) hts iX4 (hts (.instantiable RX4 10) (by decide +kernel))
  obtain ⟨dC, dI, hKc⟩ : ∃ (dC : Nat → ClassId) (dI : Nat → Nat → Nat), ∀ (k : Nat) (q : vw_C), vwCl[k]? = some q → u_Kn s q.1 q.2.1 q.2.2 (dC k) (dI k) := by
    refine ⟨fun k => if k = 0 then c0 else if k = 1 then c1 else if k = 2 then c2 else if k = 3 then c3 else c4, fun k => if k = 0 then i0 else if k = 1 then i1 else if k = 2 then i2 else if k = 3 then i3 else i4, ?_⟩
    intro k q hq
    match k, hq with
    | 0, hq => cases hq; exact k0
    | 1, hq => cases hq; exact k1
    | 2, hq => cases hq; exact k2
    | 3, hq => cases hq; exact k3
    | 4, hq => cases hq; exact k4
    | k + 5, hq => simp [vwCl] at hq
  obtain ⟨cA, kA, compA, a1, a2, a3⟩ := Cond.arrayClass_spec (type := .int) (hts (.arrayClass .int) (by decide +kernel))
  obtain ⟨cL, kL, compL, b1, b2, b3⟩ := Cond.arrayClass_spec (type := .long) (hts (.arrayClass .long) (by decide +kernel))
  have hK : va_K (dC, dI) vwCl [(cA, .int), (cL, .long)] s := by
    refine ⟨hKc, fun k q h => ?_⟩
    match k, h with
    | 0, h => cases h; exact ⟨fun N z => ⟨(fun k h => by cases h), kA, a2, compA, a3⟩, a1⟩
    | 1, h => cases h; exact ⟨fun N z => ⟨(fun k h => by cases h), kL, b2, compL, b3⟩, b1⟩
    | k + 2, h => simp at h
  have hs := flat_of_before _ hgv
  have hz1 : (Cond.isRef (.static "java/lang/Throwable" "UNASSIGNED_STACK" "[Ljava/lang/StackTraceElement;")).before #[Value.ref b] s = true := hs _ (by decide +kernel)
  have hz2 : (Cond.isRef (.static "java/lang/Throwable" "SUPPRESSED_SENTINEL" "Ljava/util/List;")).before #[Value.ref b] s = true := hs _ (by decide +kernel)
  have hl1 := hts (.laysStatic "java/lang/Throwable" "UNASSIGNED_STACK" "[Ljava/lang/StackTraceElement;") (by decide +kernel)
  have hl2 := hts (.laysStatic "java/lang/Throwable" "SUPPRESSED_SENTINEL" "Ljava/util/List;") (by decide +kernel)
  have hti := hts (.initialized "java/lang/Throwable") (by decide +kernel)
  have hE : xE (fun q : Nat => s.heap.size ≤ q) s s.heap := ⟨va_Zqof hl1 hti hz1 hA0, va_Zqof hl2 hti hz2 hA0, fun w hw => xBad_arg0 hw (hts w (xBad_in w hw)), xLS_of hl1 hA0, xLS_of hl2 hA0⟩
  have hl := lv_entry ([.ref b]) (n := 8) (Nat.le_of_ble_eq_true rfl)
  rw [lg_entry_eq]
  generalize (lg_sl ([.ref b]) ++ List.replicate (8 - (lg_sl ([.ref b])).length) Slot.unset).toArray = ls at hl ⊢
  have hl : lv_has ls 8 [(0, .ref b)] := hl
  have K := lw_begin (X := (p, l, e, s, m, #[Value.ref b], below, meth, c, (dC, dI), fun q : Nat => s.heap.size ≤ q, lw_Z below #[Value.ref b] s, [(cL, .long)])) (cA := cA) (cL := cL) (b := b) (N := L) (f := f) rfl hE ⟨hX, hbl, hA0 b hbl⟩ hL ⟨rfl, rfl, fun _ h => h⟩
  exact K ⟨⟨hx, hb, hml, hown, fun w hw => hts w (xt_in hw)⟩, hK, fun _ h => h, hlocks, hr, hfl, fun q cell hq hc => by
    rw [Array.getElem?_eq_none hq] at hc
    cases hc⟩ s.heap [] ls (fun k q h => by simp at h) ⟨fun i j p q h => by simp at h, fun k q h => by simp at h⟩ va_S.rf hl
