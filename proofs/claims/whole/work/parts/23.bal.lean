/-! BALANCE -/
theorem u1_at {s : zT} {r i x : Nat} {v : zS} : (u1 s r i v).1 r x = if x = i then v else s.1 r x := by rw [u1_eq]; rfl
theorem u2_at {s : zT} {r i x : Nat} {v : Int32} : (u2 s r i v).2 r x = if x = i then v else s.2 r x := by rw [u2_eq]; rfl
theorem u1_off {s : zT} {r i q x : Nat} {v : zS} (h : q ≠ r) : (u1 s r i v).1 q x = s.1 q x := by rw [u1_ne h]
theorem u2_off {s : zT} {r i q x : Nat} {v : Int32} (h : q ≠ r) : (u2 s r i v).2 q x = s.2 q x := by rw [u2_ne h]
theorem u1_2 {s : zT} {r i : Nat} {v : zS} : (u1 s r i v).2 = s.2 := rfl
theorem u2_1 {s : zT} {r i : Nat} {v : Int32} : (u2 s r i v).1 = s.1 := rfl
theorem dlt {a b : Nat} (ha : a < 2 ^ 20) (hb : b < 2 ^ 20) : nI a - nI b < -1 ↔ a + 1 < b := by
  rw [Int32.lt_iff_toInt_lt, pk_sub_toInt (by omega) (by omega), show (-1 : Int32).toInt = -1 by decide]
  omega
theorem dgt {a b : Nat} (ha : a < 2 ^ 20) (hb : b < 2 ^ 20) : 1 < nI a - nI b ↔ b + 1 < a := by
  rw [Int32.lt_iff_toInt_lt, pk_sub_toInt (by omega) (by omega), show (1 : Int32).toInt = 1 by decide]
  omega
theorem dle {a b : Nat} (ha : a < 2 ^ 20) (hb : b < 2 ^ 20) : nI a - nI b ≤ 1 ↔ a ≤ b + 1 := by
  rw [Int32.le_iff_toInt_le, pk_sub_toInt (by omega) (by omega), show (1 : Int32).toInt = 1 by decide]
  omega
/-- off the slots l the trees' rows are as they were -/
def so (s s' : zT) (l : List zS) : Prop := ∀ x : zS, x ∉ l → s'.1 6 x = s.1 6 x ∧ s'.1 7 x = s.1 7 x ∧ s'.2 1 x = s.2 1 x
theorem so_rf (s : zT) (l : List zS) : so s s l := fun _ _ => ⟨rfl, rfl, rfl⟩
theorem so.tr {a b c : zT} {l : List zS} (h : so a b l) (k : so b c l) : so a c l := fun x hx => ⟨(k x hx).1.trans (h x hx).1, (k x hx).2.1.trans (h x hx).2.1, (k x hx).2.2.trans (h x hx).2.2⟩
theorem so.wk {a b : zT} {l l' : List zS} (h : so a b l) (hl : ∀ x ∈ l, x ∈ l') : so a b l' := fun x hx => h x (fun q => hx (hl x q))
theorem zAt_so {s s' : zT} {l' : List zS} {h : Nat} {a : zS} {l : List zS} (k : so s s' l') (hd : ∀ x ∈ l, x ∉ l') (q : zAt s h a l) : zAt s' h a l := zAt_congr (fun x hx => k x (hd x hx)) q
/-- what balance answers: the tree holds the same, and is at most one lower -/
def balOk (s : zT) (l : List zS) (hl hr : Nat) (q : zS × zT) : Prop := ∃ h', zAt q.2 h' q.1 l ∧ (h' = max hl hr + 1 ∨ (h' = max hl hr ∧ (hl = hr + 2 ∨ hr = hl + 2))) ∧ so s q.2 l
theorem fne {x y : zS} (h : x ≠ y) : ¬ x.val = y.val := fun q => h (Fin.ext q)
theorem bal_0 {s : zT} {t : zS} {hl hr : Nat} {l1 l2 : List zS} (z : s.2 1 0 = 0) (t0 : t ≠ 0) (q1 : zAt s hl (s.1 6 t) l1) (q2 : zAt s hr (s.1 7 t) l2) (nd : (l1 ++ t :: l2).Nodup) (b1 : hl ≤ hr + 1) (b2 : hr ≤ hl + 1) (c1 : hl < 2 ^ 20) (c2 : hr < 2 ^ 20) :
    balOk s (l1 ++ t :: l2) hl hr (t, u2 s 1 t (mTr_over s t)) := by
  have e := over_eq (zAt_h z q1) (zAt_h z q2) (by omega) (by omega)
  have n1 : ∀ x ∈ l1, x ≠ t := fun x hx => (List.nodup_append.mp nd).2.2 x hx t List.mem_cons_self
  have n2 : ∀ x ∈ l2, x ≠ t := fun x hx q => (List.nodup_cons.mp (List.nodup_append.mp nd).2.1).1 (q ▸ hx)
  have g : ∀ x : zS, x ≠ t → (u2 s 1 t (mTr_over s t)).2 1 x = s.2 1 x := fun x hx => by rw [u2_at, if_neg (fne hx)]
  refine ⟨max hl hr + 1, zAt_node (zAt_congr (s := s) (fun x hx => ⟨rfl, rfl, g x (n1 x hx)⟩) q1) (zAt_congr (s := s) (fun x hx => ⟨rfl, rfl, g x (n2 x hx)⟩) q2) t0 b1 b2 rfl ?_ rfl, Or.inl rfl, fun x hx => ⟨rfl, rfl, g x (fun q => hx (by rw [q]; exact List.mem_append_right _ List.mem_cons_self))⟩⟩
  show (u2 s 1 t (mTr_over s t)).2 1 t = _
  rw [u2_at, if_pos rfl, e]
/-- a rotation whose rows are known: up over a (left) and b (right), heights set anew -/
theorem bal_up {s s2 : zT} {up a b : zS} {ha hb h1 h2 h3 h4 : Nat} {k1 k2 k3 k4 : List zS} {l : List zS} (z : s2.2 1 0 = 0) (u0 : up ≠ 0) (a0 : a ≠ 0) (b0 : b ≠ 0)
    (ea : s2.1 6 up = a) (eb : s2.1 7 up = b) (q1 : zAt s2 h1 (s2.1 6 a) k1) (q2 : zAt s2 h2 (s2.1 7 a) k2) (q3 : zAt s2 h3 (s2.1 6 b) k3) (q4 : zAt s2 h4 (s2.1 7 b) k4)
    (el : l = (k1 ++ a :: k2) ++ up :: (k3 ++ b :: k4)) (nd : l.Nodup) (eha : ha = max h1 h2 + 1) (ehb : hb = max h3 h4 + 1) (b1 : h1 ≤ h2 + 1) (b2 : h2 ≤ h1 + 1) (b3 : h3 ≤ h4 + 1) (b4 : h4 ≤ h3 + 1) (b5 : ha ≤ hb + 1) (b6 : hb ≤ ha + 1)
    (c1 : h1 < 2 ^ 20) (c2 : h2 < 2 ^ 20) (c3 : h3 < 2 ^ 20) (c4 : h4 < 2 ^ 20) (hso : so s s2 l) : zAt (mTr_bal2 (up, s2)).2 (max ha hb + 1) (mTr_bal2 (up, s2)).1 l ∧ so s (mTr_bal2 (up, s2)).2 l := by
  subst el
  obtain ⟨nL, nR, nX⟩ := List.nodup_append.mp nd
  obtain ⟨nU, nR'⟩ := List.nodup_cons.mp nR
  obtain ⟨nk1, nA, nX1⟩ := List.nodup_append.mp nL
  obtain ⟨nA1, nk2⟩ := List.nodup_cons.mp nA
  obtain ⟨nk3, nB, nX3⟩ := List.nodup_append.mp nR'
  obtain ⟨nB1, nk4⟩ := List.nodup_cons.mp nB
  have mA : a ∈ k1 ++ a :: k2 := List.mem_append_right _ List.mem_cons_self
  have mB : b ∈ k3 ++ b :: k4 := List.mem_append_right _ List.mem_cons_self
  have aU : a ≠ up := nX a mA up List.mem_cons_self
  have bU : b ≠ up := fun q => nU (q ▸ mB)
  have aB : a ≠ b := nX a mA b (List.mem_cons_of_mem _ mB)
  -- the three writes
  have e3 : mTr_over s2 a = nI ha := by rw [eha]; exact over_eq (zAt_h z q1) (zAt_h z q2) (by omega) (by omega)
  have d3 : ∀ x : zS, x ≠ a → (u2 s2 1 a (nI ha)).2 1 x = s2.2 1 x := fun x hx => by rw [u2_at, if_neg (fne hx)]
  have z3 : (u2 s2 1 a (nI ha)).2 1 0 = 0 := by rw [show ((u2 s2 1 a (nI ha)).2 1 0) = (u2 s2 1 a (nI ha)).2 1 (0 : zS).val from rfl, d3 0 a0.symm]; exact z
  have n3a : ∀ x ∈ k3, x ≠ a := fun x hx q => aB.symm (by exact absurd (nX a mA x (List.mem_cons_of_mem _ (List.mem_append_left _ hx))) (fun w => w q.symm))
  have n4a : ∀ x ∈ k4, x ≠ a := fun x hx q => by exact absurd (nX a mA x (List.mem_cons_of_mem _ (List.mem_append_right _ (List.mem_cons_of_mem _ hx)))) (fun w => w q.symm)
  have q3' : zAt (u2 s2 1 a (nI ha)) h3 (s2.1 6 b) k3 := zAt_congr (s := s2) (fun x hx => ⟨rfl, rfl, d3 x (n3a x hx)⟩) q3
  have q4' : zAt (u2 s2 1 a (nI ha)) h4 (s2.1 7 b) k4 := zAt_congr (s := s2) (fun x hx => ⟨rfl, rfl, d3 x (n4a x hx)⟩) q4
  have e4 : mTr_over (u2 s2 1 a (nI ha)) b = nI hb := by rw [ehb]; exact over_eq (zAt_h z3 q3') (zAt_h z3 q4') (by omega) (by omega)
  generalize hs4 : u2 (u2 s2 1 a (nI ha)) 1 b (nI hb) = s4
  have r4 : s4.1 = s2.1 := by rw [← hs4]; rfl
  have d4 : ∀ x : zS, x ≠ a → x ≠ b → s4.2 1 x = s2.2 1 x := fun x hx hy => by rw [← hs4, u2_at, if_neg (fne hy), d3 x hx]
  have d4a : s4.2 1 a = nI ha := by rw [← hs4, u2_at, if_neg (fne aB), u2_at, if_pos rfl]
  have d4b : s4.2 1 b = nI hb := by rw [← hs4, u2_at, if_pos rfl]
  have e5 : mTr_over s4 up = nI (max ha hb + 1) := over_eq (by rw [r4, ea]; exact d4a) (by rw [r4, eb]; exact d4b) (by omega) (by omega)
  have hbal : mTr_bal2 (up, s2) = (up, u2 s4 1 up (nI (max ha hb + 1))) := by
    unfold mTr_bal2
    try dsimp only
    rw [ea, e3, show (u2 s2 1 a.val (nI ha)).1 7 up.val = b from eb, e4, hs4, e5]
  rw [hbal]
  generalize hs5 : u2 s4 1 up (nI (max ha hb + 1)) = s5
  have r5 : s5.1 = s2.1 := by rw [← hs5]; exact r4
  have d5 : ∀ x : zS, x ≠ a → x ≠ b → x ≠ up → s5.2 1 x = s2.2 1 x := fun x hx hy hu => by rw [← hs5, u2_at, if_neg (fne hu), d4 x hx hy]
  have d5a : s5.2 1 a = nI ha := by rw [← hs5, u2_at, if_neg (fne aU), d4a]
  have d5b : s5.2 1 b = nI hb := by rw [← hs5, u2_at, if_neg (fne bU), d4b]
  have d5u : s5.2 1 up = nI (max ha hb + 1) := by rw [← hs5, u2_at, if_pos rfl]
  have cg : ∀ {h : Nat} {w : zS} {k : List zS}, (∀ x ∈ k, x ≠ a ∧ x ≠ b ∧ x ≠ up) → zAt s2 h w k → zAt s5 h w k := fun hk q => zAt_congr (fun x hx => ⟨by rw [r5], by rw [r5], d5 x (hk x hx).1 (hk x hx).2.1 (hk x hx).2.2⟩) q
  have m1 : ∀ x ∈ k1, x ≠ a ∧ x ≠ b ∧ x ≠ up := fun x hx => ⟨nX1 x hx a List.mem_cons_self, nX x (List.mem_append_left _ hx) b (List.mem_cons_of_mem _ mB), nX x (List.mem_append_left _ hx) up List.mem_cons_self⟩
  have m2 : ∀ x ∈ k2, x ≠ a ∧ x ≠ b ∧ x ≠ up := fun x hx => ⟨fun q => nA1 (q ▸ hx), nX x (List.mem_append_right _ (List.mem_cons_of_mem _ hx)) b (List.mem_cons_of_mem _ mB), nX x (List.mem_append_right _ (List.mem_cons_of_mem _ hx)) up List.mem_cons_self⟩
  have m3 : ∀ x ∈ k3, x ≠ a ∧ x ≠ b ∧ x ≠ up := fun x hx => ⟨n3a x hx, nX3 x hx b List.mem_cons_self, fun q => nU (q ▸ List.mem_append_left _ hx)⟩
  have m4 : ∀ x ∈ k4, x ≠ a ∧ x ≠ b ∧ x ≠ up := fun x hx => ⟨n4a x hx, fun q => nB1 (q ▸ hx), fun q => nU (q ▸ List.mem_append_right _ (List.mem_cons_of_mem _ hx))⟩
  have tA : zAt s5 ha (s5.1 6 up) (k1 ++ a :: k2) := by
    rw [r5, ea]
    exact zAt_node (by rw [r5]; exact cg m1 q1) (by rw [r5]; exact cg m2 q2) a0 b1 b2 eha d5a rfl
  have tB : zAt s5 hb (s5.1 7 up) (k3 ++ b :: k4) := by
    rw [r5, eb]
    exact zAt_node (by rw [r5]; exact cg m3 q3) (by rw [r5]; exact cg m4 q4) b0 b3 b4 ehb d5b rfl
  refine ⟨zAt_node tA tB u0 b5 b6 rfl d5u rfl, fun x hx => ?_⟩
  obtain ⟨g1, g2, g3⟩ := hso x hx
  have xa : x ≠ a := fun q => hx (by rw [q]; exact List.mem_append_left _ mA)
  have xb : x ≠ b := fun q => hx (by rw [q]; exact List.mem_append_right _ (List.mem_cons_of_mem _ mB))
  have xu : x ≠ up := fun q => hx (by rw [q]; exact List.mem_append_right _ List.mem_cons_self)
  exact ⟨by rw [r5]; exact g1, by rw [r5]; exact g2, (d5 x xa xb xu).trans g3⟩
theorem bal_L {s : zT} {t : zS} {hl hr : Nat} {l1 l2 : List zS} (z : s.2 1 0 = 0) (t0 : t ≠ 0) (q1 : zAt s hl (s.1 6 t) l1) (q2 : zAt s hr (s.1 7 t) l2) (nd : (l1 ++ t :: l2).Nodup) (b : hl = hr + 2) (c1 : hl < 2 ^ 20) :
    balOk s (l1 ++ t :: l2) hl hr (mTr_bal2 (mTr_liftL s t)) := by
  rcases zAt_cases q1 with ⟨h0, -, -⟩ | ⟨w0, ha, hb, la, lb, qa, qb, eh, x1, x2, -, rfl⟩
  · omega
  generalize hw : s.1 6 t.val = w at *
  obtain ⟨nL, nR, nX⟩ := List.nodup_append.mp nd
  have nT := (List.nodup_cons.mp nR).1
  obtain ⟨nla, nlb', nX1⟩ := List.nodup_append.mp nL
  have nW := (List.nodup_cons.mp nlb').1
  have wT : w ≠ t := nX w (List.mem_append_right _ List.mem_cons_self) t List.mem_cons_self
  have aT : ∀ x ∈ la, x ≠ t := fun x hx => nX x (List.mem_append_left _ hx) t List.mem_cons_self
  have bT : ∀ x ∈ lb, x ≠ t := fun x hx => nX x (List.mem_append_right _ (List.mem_cons_of_mem _ hx)) t List.mem_cons_self
  have aW : ∀ x ∈ la, x ≠ w := fun x hx => nX1 x hx w List.mem_cons_self
  have bW : ∀ x ∈ lb, x ≠ w := fun x hx q => nW (q ▸ hx)
  have l2T : ∀ x ∈ l2, x ≠ t := fun x hx q => nT (q ▸ hx)
  have l2W : ∀ x ∈ l2, x ≠ w := fun x hx q => nX w (List.mem_append_right _ List.mem_cons_self) x (List.mem_cons_of_mem _ hx) q.symm
  have hha := zAt_h z qa
  have hhb := zAt_h z qb
  by_cases hc : hb ≤ ha
  · -- one step up
    have e : mTr_liftL s t = (w, u1 (u1 s 6 t (s.1 7 w)) 7 w t) := by
      unfold mTr_liftL
      try dsimp only
      rw [hw, hha, hhb, if_pos (kn_le hc (by omega))]
    rw [e]
    generalize hs2 : u1 (u1 s 6 t (s.1 7 w)) 7 w t = s2
    have r6 : ∀ x : zS, s2.1 6 x = if x.val = t.val then s.1 7 w else s.1 6 x := fun x => by rw [← hs2, u1_off (by decide), u1_at]
    have r7 : ∀ x : zS, s2.1 7 x = if x.val = w.val then t else s.1 7 x := fun x => by rw [← hs2, u1_at, u1_off (by decide)]
    have rh : s2.2 = s.2 := by rw [← hs2]; rfl
    have cg : ∀ {h : Nat} {v : zS} {k : List zS}, (∀ x ∈ k, x ≠ t ∧ x ≠ w) → zAt s h v k → zAt s2 h v k := fun hk q => zAt_congr (fun x hx => ⟨by rw [r6, if_neg (fne (hk x hx).1)], by rw [r7, if_neg (fne (hk x hx).2)], by rw [rh]⟩) q
    rcases zAt_cases qa with ⟨h0, -, -⟩ | ⟨a0, h1, h2, k1, k2, p1, p2, ea, y1, y2, -, rfl⟩
    · omega
    generalize hA : s.1 6 w.val = A at *
    have mA : A ∈ k1 ++ A :: k2 := List.mem_append_right _ List.mem_cons_self
    have el : ((k1 ++ A :: k2) ++ w :: lb) ++ t :: l2 = (k1 ++ A :: k2) ++ w :: (lb ++ t :: l2) := by simp
    rw [el] at nd ⊢
    have hso : so s s2 ((k1 ++ A :: k2) ++ w :: (lb ++ t :: l2)) := fun x hx => ⟨by rw [r6, if_neg (fne (fun q => hx (by rw [q]; exact List.mem_append_right _ (List.mem_cons_of_mem _ (List.mem_append_right _ List.mem_cons_self)))))], by rw [r7, if_neg (fne (fun q => hx (by rw [q]; exact List.mem_append_right _ List.mem_cons_self)))], by rw [rh]⟩
    obtain ⟨g1, g2⟩ := bal_up (s := s) (s2 := s2) (up := w) (a := A) (b := t) (ha := ha) (hb := max hb hr + 1) (by rw [rh]; exact z) w0 a0 t0 (by rw [r6, if_neg (fne wT)]; exact hA) (by rw [r7, if_pos rfl])
      (by rw [r6, if_neg (fne (aT A mA))]; exact cg (fun x hx => ⟨aT x (List.mem_append_left _ hx), aW x (List.mem_append_left _ hx)⟩) p1)
      (by rw [r7, if_neg (fne (aW A mA))]; exact cg (fun x hx => ⟨aT x (List.mem_append_right _ (List.mem_cons_of_mem _ hx)), aW x (List.mem_append_right _ (List.mem_cons_of_mem _ hx))⟩) p2)
      (by rw [r6, if_pos rfl]; exact cg (fun x hx => ⟨bT x hx, bW x hx⟩) qb)
      (by rw [r7, if_neg (fne wT.symm)]; exact cg (fun x hx => ⟨l2T x hx, l2W x hx⟩) q2)
      rfl nd ea rfl y1 y2 (by omega) (by omega) (by omega) (by omega) (by omega) (by omega) (by omega) (by omega) hso
    exact ⟨_, g1, by omega, g2⟩
  · -- two steps up
    rcases zAt_cases qb with ⟨h0, -, -⟩ | ⟨u0, h2, h3, k2, k3, p2, p3, eb, y1, y2, -, rfl⟩
    · omega
    generalize hu : s.1 7 w.val = up at *
    have e : mTr_liftL s t = (up, u1 (u1 (u1 (u1 s 7 w (s.1 6 up)) 6 up w) 6 t (s.1 7 up)) 7 up t) := by
      have mU0 : up ∈ k2 ++ up :: k3 := List.mem_append_right _ List.mem_cons_self
      unfold mTr_liftL
      try dsimp only
      rw [hw, hu, hha, hhb, if_neg (kn_nle (by omega) (by omega))]
      have x1 : (u1 (u1 s 7 w.val (s.1 6 up)) 6 up.val w).1 7 up.val = s.1 7 up := by rw [u1_off (by decide), u1_at, if_neg (fne (bW up mU0))]
      rw [x1]
    have mU : up ∈ k2 ++ up :: k3 := List.mem_append_right _ List.mem_cons_self
    have uT := bT up mU
    have uW := bW up mU
    rw [e]
    generalize hs2 : u1 (u1 (u1 (u1 s 7 w (s.1 6 up)) 6 up w) 6 t (s.1 7 up)) 7 up t = s2
    have r6 : ∀ x : zS, s2.1 6 x = if x.val = t.val then s.1 7 up else if x.val = up.val then w else s.1 6 x := fun x => by rw [← hs2, u1_off (by decide), u1_at, u1_at, u1_off (by decide)]
    have r7 : ∀ x : zS, s2.1 7 x = if x.val = up.val then t else if x.val = w.val then s.1 6 up else s.1 7 x := fun x => by rw [← hs2, u1_at, u1_off (by decide), u1_off (by decide), u1_at]
    have rh : s2.2 = s.2 := by rw [← hs2]; rfl
    have nlb := (List.nodup_cons.mp nlb').2
    obtain ⟨-, nU', nX2⟩ := List.nodup_append.mp nlb
    have nU := (List.nodup_cons.mp nU').1
    have cg : ∀ {h : Nat} {v : zS} {k : List zS}, (∀ x ∈ k, x ≠ t ∧ x ≠ w ∧ x ≠ up) → zAt s h v k → zAt s2 h v k := fun hk q => zAt_congr (fun x hx => ⟨by rw [r6, if_neg (fne (hk x hx).1), if_neg (fne (hk x hx).2.2)], by rw [r7, if_neg (fne (hk x hx).2.2), if_neg (fne (hk x hx).2.1)], by rw [rh]⟩) q
    have el : (la ++ w :: (k2 ++ up :: k3)) ++ t :: l2 = (la ++ w :: k2) ++ up :: (k3 ++ t :: l2) := by simp
    have laU : ∀ x ∈ la, x ≠ up := fun x hx => nX1 x hx up (List.mem_cons_of_mem _ mU)
    have l2U : ∀ x ∈ l2, x ≠ up := fun x hx q => nX up (List.mem_append_right _ (List.mem_cons_of_mem _ mU)) x (List.mem_cons_of_mem _ hx) q.symm
    rw [el] at nd ⊢
    have hso : so s s2 ((la ++ w :: k2) ++ up :: (k3 ++ t :: l2)) := fun x hx => by
      have xt : x ≠ t := fun q => hx (by rw [q]; exact List.mem_append_right _ (List.mem_cons_of_mem _ (List.mem_append_right _ List.mem_cons_self)))
      have xw : x ≠ w := fun q => hx (by rw [q]; exact List.mem_append_left _ (List.mem_append_right _ List.mem_cons_self))
      have xu : x ≠ up := fun q => hx (by rw [q]; exact List.mem_append_right _ List.mem_cons_self)
      exact ⟨by rw [r6, if_neg (fne xt), if_neg (fne xu)], by rw [r7, if_neg (fne xu), if_neg (fne xw)], by rw [rh]⟩
    obtain ⟨g1, g2⟩ := bal_up (s := s) (s2 := s2) (up := up) (a := w) (b := t) (ha := max ha h2 + 1) (hb := max h3 hr + 1) (by rw [rh]; exact z) u0 w0 t0 (by rw [r6, if_neg (fne uT), if_pos rfl]) (by rw [r7, if_pos rfl])
      (by rw [r6, if_neg (fne wT), if_neg (fne uW.symm)]; exact cg (fun x hx => ⟨aT x hx, aW x hx, laU x hx⟩) qa)
      (by rw [r7, if_neg (fne uW.symm), if_pos rfl]; exact cg (fun x hx => ⟨bT x (List.mem_append_left _ hx), bW x (List.mem_append_left _ hx), nX2 x hx up List.mem_cons_self⟩) p2)
      (by rw [r6, if_pos rfl]; exact cg (fun x hx => ⟨bT x (List.mem_append_right _ (List.mem_cons_of_mem _ hx)), bW x (List.mem_append_right _ (List.mem_cons_of_mem _ hx)), fun q => nU (q ▸ hx)⟩) p3)
      (by rw [r7, if_neg (fne uT.symm), if_neg (fne wT.symm)]; exact cg (fun x hx => ⟨l2T x hx, l2W x hx, l2U x hx⟩) q2)
      rfl nd rfl rfl (by omega) (by omega) (by omega) (by omega) (by omega) (by omega) (by omega) (by omega) (by omega) (by omega) hso
    exact ⟨_, g1, by omega, g2⟩
theorem bal_R {s : zT} {t : zS} {hl hr : Nat} {l1 l2 : List zS} (z : s.2 1 0 = 0) (t0 : t ≠ 0) (q1 : zAt s hl (s.1 6 t) l1) (q2 : zAt s hr (s.1 7 t) l2) (nd : (l1 ++ t :: l2).Nodup) (b : hr = hl + 2) (c1 : hr < 2 ^ 20) :
    balOk s (l1 ++ t :: l2) hl hr (mTr_bal2 (mTr_liftR s t)) := by
  rcases zAt_cases q2 with ⟨h0, -, -⟩ | ⟨w0, hb, ha, lb, la, qb, qa, eh, x1, x2, -, rfl⟩
  · omega
  generalize hw : s.1 7 t.val = w at *
  obtain ⟨nL, nR, nX⟩ := List.nodup_append.mp nd
  obtain ⟨nT, nR'⟩ := List.nodup_cons.mp nR
  obtain ⟨nlb, nla', nX1⟩ := List.nodup_append.mp nR'
  have nW := (List.nodup_cons.mp nla').1
  have mW : w ∈ lb ++ w :: la := List.mem_append_right _ List.mem_cons_self
  have wT : w ≠ t := fun q => nT (q ▸ mW)
  have aT : ∀ x ∈ la, x ≠ t := fun x hx q => nT (q ▸ List.mem_append_right _ (List.mem_cons_of_mem _ hx))
  have bT : ∀ x ∈ lb, x ≠ t := fun x hx q => nT (q ▸ List.mem_append_left _ hx)
  have aW : ∀ x ∈ la, x ≠ w := fun x hx q => nW (q ▸ hx)
  have bW : ∀ x ∈ lb, x ≠ w := fun x hx => nX1 x hx w List.mem_cons_self
  have l1T : ∀ x ∈ l1, x ≠ t := fun x hx => nX x hx t List.mem_cons_self
  have l1W : ∀ x ∈ l1, x ≠ w := fun x hx => nX x hx w (List.mem_cons_of_mem _ mW)
  have hha := zAt_h z qa
  have hhb := zAt_h z qb
  by_cases hc : hb ≤ ha
  · have e : mTr_liftR s t = (w, u1 (u1 s 7 t (s.1 6 w)) 6 w t) := by
      unfold mTr_liftR
      try dsimp only
      rw [hw, hha, hhb, if_pos (kn_le hc (by omega))]
    rw [e]
    generalize hs2 : u1 (u1 s 7 t (s.1 6 w)) 6 w t = s2
    have r7 : ∀ x : zS, s2.1 7 x = if x.val = t.val then s.1 6 w else s.1 7 x := fun x => by rw [← hs2, u1_off (by decide), u1_at]
    have r6 : ∀ x : zS, s2.1 6 x = if x.val = w.val then t else s.1 6 x := fun x => by rw [← hs2, u1_at, u1_off (by decide)]
    have rh : s2.2 = s.2 := by rw [← hs2]; rfl
    have cg : ∀ {h : Nat} {v : zS} {k : List zS}, (∀ x ∈ k, x ≠ t ∧ x ≠ w) → zAt s h v k → zAt s2 h v k := fun hk q => zAt_congr (fun x hx => ⟨by rw [r6, if_neg (fne (hk x hx).2)], by rw [r7, if_neg (fne (hk x hx).1)], by rw [rh]⟩) q
    rcases zAt_cases qa with ⟨h0, -, -⟩ | ⟨a0, h3, h4, k3, k4, p3, p4, ea, y1, y2, -, rfl⟩
    · omega
    generalize hA : s.1 7 w.val = A at *
    have mA : A ∈ k3 ++ A :: k4 := List.mem_append_right _ List.mem_cons_self
    have el : l1 ++ t :: (lb ++ w :: (k3 ++ A :: k4)) = (l1 ++ t :: lb) ++ w :: (k3 ++ A :: k4) := by simp
    rw [el] at nd ⊢
    have hso : so s s2 ((l1 ++ t :: lb) ++ w :: (k3 ++ A :: k4)) := fun x hx => ⟨by rw [r6, if_neg (fne (fun q => hx (by rw [q]; exact List.mem_append_right _ List.mem_cons_self)))], by rw [r7, if_neg (fne (fun q => hx (by rw [q]; exact List.mem_append_left _ (List.mem_append_right _ List.mem_cons_self))))], by rw [rh]⟩
    obtain ⟨g1, g2⟩ := bal_up (s := s) (s2 := s2) (up := w) (a := t) (b := A) (ha := max hl hb + 1) (hb := ha) (by rw [rh]; exact z) w0 t0 a0 (by rw [r6, if_pos rfl]) (by rw [r7, if_neg (fne wT)]; exact hA)
      (by rw [r6, if_neg (fne wT.symm)]; exact cg (fun x hx => ⟨l1T x hx, l1W x hx⟩) q1)
      (by rw [r7, if_pos rfl]; exact cg (fun x hx => ⟨bT x hx, bW x hx⟩) qb)
      (by rw [r6, if_neg (fne (aW A mA))]; exact cg (fun x hx => ⟨aT x (List.mem_append_left _ hx), aW x (List.mem_append_left _ hx)⟩) p3)
      (by rw [r7, if_neg (fne (aT A mA))]; exact cg (fun x hx => ⟨aT x (List.mem_append_right _ (List.mem_cons_of_mem _ hx)), aW x (List.mem_append_right _ (List.mem_cons_of_mem _ hx))⟩) p4)
      rfl nd rfl ea (by omega) (by omega) y1 y2 (by omega) (by omega) (by omega) (by omega) (by omega) (by omega) hso
    exact ⟨_, g1, by omega, g2⟩
  · rcases zAt_cases qb with ⟨h0, -, -⟩ | ⟨u0, h2, h3, k2, k3, p2, p3, eb, y1, y2, -, rfl⟩
    · omega
    generalize hu : s.1 6 w.val = up at *
    have mU : up ∈ k2 ++ up :: k3 := List.mem_append_right _ List.mem_cons_self
    have uT := bT up mU
    have uW := bW up mU
    have e : mTr_liftR s t = (up, u1 (u1 (u1 (u1 s 6 w (s.1 7 up)) 7 up w) 7 t (s.1 6 up)) 6 up t) := by
      unfold mTr_liftR
      try dsimp only
      rw [hw, hu, hha, hhb, if_neg (kn_nle (by omega) (by omega))]
      have x1 : (u1 (u1 s 6 w.val (s.1 7 up)) 7 up.val w).1 6 up.val = s.1 6 up := by rw [u1_off (by decide), u1_at, if_neg (fne uW)]
      rw [x1]
    rw [e]
    generalize hs2 : u1 (u1 (u1 (u1 s 6 w (s.1 7 up)) 7 up w) 7 t (s.1 6 up)) 6 up t = s2
    have r7 : ∀ x : zS, s2.1 7 x = if x.val = t.val then s.1 6 up else if x.val = up.val then w else s.1 7 x := fun x => by rw [← hs2, u1_off (by decide), u1_at, u1_at, u1_off (by decide)]
    have r6 : ∀ x : zS, s2.1 6 x = if x.val = up.val then t else if x.val = w.val then s.1 7 up else s.1 6 x := fun x => by rw [← hs2, u1_at, u1_off (by decide), u1_off (by decide), u1_at]
    have rh : s2.2 = s.2 := by rw [← hs2]; rfl
    obtain ⟨-, nU', nX2⟩ := List.nodup_append.mp nlb
    have nU := (List.nodup_cons.mp nU').1
    have cg : ∀ {h : Nat} {v : zS} {k : List zS}, (∀ x ∈ k, x ≠ t ∧ x ≠ w ∧ x ≠ up) → zAt s h v k → zAt s2 h v k := fun hk q => zAt_congr (fun x hx => ⟨by rw [r6, if_neg (fne (hk x hx).2.2), if_neg (fne (hk x hx).2.1)], by rw [r7, if_neg (fne (hk x hx).1), if_neg (fne (hk x hx).2.2)], by rw [rh]⟩) q
    have el : l1 ++ t :: ((k2 ++ up :: k3) ++ w :: la) = (l1 ++ t :: k2) ++ up :: (k3 ++ w :: la) := by simp
    have laU : ∀ x ∈ la, x ≠ up := fun x hx q => nX1 up mU x (List.mem_cons_of_mem _ hx) q.symm
    have l1U : ∀ x ∈ l1, x ≠ up := fun x hx => nX x hx up (List.mem_cons_of_mem _ (List.mem_append_left _ mU))
    rw [el] at nd ⊢
    have hso : so s s2 ((l1 ++ t :: k2) ++ up :: (k3 ++ w :: la)) := fun x hx => by
      have xt : x ≠ t := fun q => hx (by rw [q]; exact List.mem_append_left _ (List.mem_append_right _ List.mem_cons_self))
      have xw : x ≠ w := fun q => hx (by rw [q]; exact List.mem_append_right _ (List.mem_cons_of_mem _ (List.mem_append_right _ List.mem_cons_self)))
      have xu : x ≠ up := fun q => hx (by rw [q]; exact List.mem_append_right _ List.mem_cons_self)
      exact ⟨by rw [r6, if_neg (fne xu), if_neg (fne xw)], by rw [r7, if_neg (fne xt), if_neg (fne xu)], by rw [rh]⟩
    obtain ⟨g1, g2⟩ := bal_up (s := s) (s2 := s2) (up := up) (a := t) (b := w) (ha := max hl h2 + 1) (hb := max h3 ha + 1) (by rw [rh]; exact z) u0 t0 w0 (by rw [r6, if_pos rfl]) (by rw [r7, if_neg (fne uT), if_pos rfl])
      (by rw [r6, if_neg (fne uT.symm), if_neg (fne wT.symm)]; exact cg (fun x hx => ⟨l1T x hx, l1W x hx, l1U x hx⟩) q1)
      (by rw [r7, if_pos rfl]; exact cg (fun x hx => ⟨bT x (List.mem_append_left _ hx), bW x (List.mem_append_left _ hx), nX2 x hx up List.mem_cons_self⟩) p2)
      (by rw [r6, if_neg (fne uW.symm), if_pos rfl]; exact cg (fun x hx => ⟨bT x (List.mem_append_right _ (List.mem_cons_of_mem _ hx)), bW x (List.mem_append_right _ (List.mem_cons_of_mem _ hx)), fun q => nU (q ▸ hx)⟩) p3)
      (by rw [r7, if_neg (fne wT), if_neg (fne uW.symm)]; exact cg (fun x hx => ⟨aT x hx, aW x hx, laU x hx⟩) qa)
      rfl nd rfl rfl (by omega) (by omega) (by omega) (by omega) (by omega) (by omega) (by omega) (by omega) (by omega) (by omega) hso
    exact ⟨_, g1, by omega, g2⟩
/-- BALANCE: both sides of t are balanced and differ by at most two -/
theorem bal_spec {s : zT} {t : zS} {hl hr : Nat} {l1 l2 : List zS} (z : s.2 1 0 = 0) (t0 : t ≠ 0) (q1 : zAt s hl (s.1 6 t) l1) (q2 : zAt s hr (s.1 7 t) l2) (nd : (l1 ++ t :: l2).Nodup) (b1 : hl ≤ hr + 2) (b2 : hr ≤ hl + 2) (c1 : hl < 2 ^ 20) (c2 : hr < 2 ^ 20) :
    balOk s (l1 ++ t :: l2) hl hr (mTr_bal s t) := by
  unfold mTr_bal
  try dsimp only
  rw [zAt_h z q1, zAt_h z q2]
  by_cases h1 : hl + 1 < hr
  · rw [if_pos ((dlt c1 c2).mpr h1), if_pos ((dle c1 c2).mpr (by omega))]
    exact bal_R z t0 q1 q2 nd (by omega) c2
  · rw [if_neg (fun q => h1 ((dlt c1 c2).mp q))]
    by_cases h2 : hr + 1 < hl
    · rw [if_pos ((dgt c1 c2).mpr h2), if_neg (fun q => by have := (dle c1 c2).mp q; omega)]
      exact bal_L z t0 q1 q2 nd (by omega) c1
    · rw [if_neg (fun q => h2 ((dgt c1 c2).mp q))]
      exact bal_0 z t0 q1 q2 nd (by omega) (by omega) c1 c2
