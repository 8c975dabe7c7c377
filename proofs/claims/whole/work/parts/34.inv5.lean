theorem fbL_spec {r : zT} : ∀ {l : List zS} {a : zS}, Sg (r.1 1) a l 0 → (∀ x ∈ l, mBi_find r (r.2 0 x) = x ∧ mBM_over r x = false) → mBM_fbL r l.length 0 a = 0 := by
  intro l
  induction l with
  | nil => intro a _ _; rfl
  | cons y ys ih =>
    intro a sg hx
    obtain ⟨ea, y0, sg2⟩ := sg
    obtain ⟨c1, c2⟩ := hx y List.mem_cons_self
    show mBM_fbL r ys.length (if mBi_find r (r.2 0 a) = a then mBM_fbL1 r a 0 else mBM_fbL1 r a (0 + 1)) (r.1 1 a) = 0
    rw [ea, if_pos c1]
    have e : mBM_fbL1 r y 0 = 0 := by unfold mBM_fbL1; rw [c2]; rfl
    rw [e]
    exact ih sg2 (fun x h => hx x (List.mem_cons_of_mem _ h))
theorem Inv_fb {s : zT} {ln fr : List zS} {bn : zP → List zS} (h : Inv s ln fr bn) : (mBM_fb s).1 = 0 := by
  have hI := Inv_rank h
  obtain ⟨r1, r2, r3⟩ := LnI_rank h.1.1
  have hl : ln.length ≤ 2001 := h.1.2.1.2.2.2.2.1
  have pw : ln.Pairwise (fun x y : zS => (mLn_rank s).2 2 x ≤ (mLn_rank s).2 2 y) := by
    rw [List.pairwise_iff_getElem]
    intro i j hi hj hij
    rw [r3 i ln[i] (List.getElem?_eq_getElem hi), r3 j ln[j] (List.getElem?_eq_getElem hj)]
    exact (nI_leI (by omega) (by omega)).mpr (by omega)
  unfold mBM_fb
  dsimp only
  generalize mLn_rank s = r at *
  obtain ⟨⟨hL, hB, hE, hR, hF⟩, hM⟩ := hI
  rw [hL.2.2.2.2.2.2, nI_clamp (by omega)]
  refine fbL_spec hL.1 (fun x hx => ⟨(BI_find hB _).1 x hx rfl, ?_⟩)
  unfold mBM_over
  by_cases c : r.2 4 0 = 2
  · rw [decide_eq_true c]; rfl
  · by_cases c0 : r.1 2 x = 0
    · rw [decide_eq_true c0]
      simp
    · have hex := hE c (plc r x)
      have hxb : x ∈ bn (plc r x) := (BI_mem hB).mpr ⟨hx, rfl⟩
      have sg := (hB.2.2.2.2.2 (plc r x)).1.1.1
      obtain ⟨c1, c2, hc⟩ := List.append_of_mem hxb
      have pwb : (bn (plc r x)).Pairwise (fun x y : zS => r.2 2 x ≤ r.2 2 y) := by rw [hex]; exact pw.filter _
      rw [hc] at sg pwb
      obtain ⟨m, -, em, -, g3⟩ := Sg_app.mp sg
      cases c2 with
      | nil => exact absurd g3 c0
      | cons y ys =>
        have e : r.1 2 x = y := g3.1
        have := (List.pairwise_cons.mp (List.pairwise_append.mp pwb).2.1).1 y List.mem_cons_self
        rw [e, decide_eq_true this]
        simp
theorem Ab_wrong {s : zT} {kv : List (Int32 × Int32)} (h : Ab s kv) : (mBM_wrong s).1 = 0 ∧ Ab (mBM_wrong s).2 kv ∧ sK s (mBM_wrong s).2 ∧ (mBM_wrong s).2.2 4 3 = s.2 4 3 := by
  have hA := Ab_rank h
  obtain ⟨ln, fr, bn, hI, rfl⟩ := h
  refine ⟨?_, hA⟩
  have hc := (Inv_rank hI).1.1.2.2.2.2.2.2
  have r4 : (mLn_rank s).2 4 2 = nI ln.length := hc
  show ((mLn_faults s + mBi_faults s (s.2 4 2)) + (mBM_fb s).1) + (if (mLn_rank s).2 4 2 ≤ (if s.2 4 0 = 2 then s.2 4 1 else 2000) then 0 else 1) = 0
  rw [LnI_faults hI.1.1, Inv_bfaults hI, Inv_fb hI, r4, if_pos]
  · rfl
  · rcases hI.2 with ⟨hm, M, M1, M2, em, hl⟩ | ⟨hm, hl⟩
    · rw [if_pos hm, em]
      exact (nI_leI (by omega) (by omega)).mpr hl
    · have hm2 : ¬ s.2 4 0 = 2 := fun q => by rcases hm with c | c <;> (rw [q] at c; exact absurd c (by decide))
      rw [if_neg hm2]
      exact (nI_leI (b := 2000) (by omega) (by decide)).mpr hl
/-! THE ORDER THAT IS TOLD -/
def Sq (f : zS → zS) : zS → List zS → Prop
  | a, [] => a = 0
  | a, x :: xs => a = x ∧ x ≠ 0 ∧ Sq f (f x) xs
theorem Sq_line {f : Nat → zS} : ∀ {l : List zS} {a : zS}, Sg f a l 0 → Sq (fun x => f x) a l := by
  intro l
  induction l with
  | nil => intro a h; exact h
  | cons x xs ih => intro a h; exact ⟨h.1, h.2.1, ih h.2.2⟩
theorem Sq_congr {f g : zS → zS} (h : ∀ x, f x = g x) : ∀ {l : List zS} {a : zS}, Sq f a l → Sq g a l := by
  intro l
  induction l with
  | nil => intro a q; exact q
  | cons x xs ih => intro a q; exact ⟨q.1, q.2.1, by rw [← h x]; exact ih q.2.2⟩
theorem Sq_chain {s : zT} {p : zP} {T : List zS} : ∀ {b : List zS} {a : zS}, Sg (s.1 2) a b 0 → b ≠ [] → (∀ x ∈ b, plc s x = p) → Sq (mBi_behind s) (mBi_from s (p.val + 1)) T → Sq (mBi_behind s) a (b ++ T) := by
  intro b
  induction b with
  | nil => intro a _ h; exact absurd rfl h
  | cons y ys ih =>
    intro a sg _ hp hT
    obtain ⟨ea, y0, sg2⟩ := sg
    refine ⟨ea, y0, ?_⟩
    cases ys with
    | nil =>
      have hn : s.1 2 y = 0 := sg2
      have e : mBi_behind s y = mBi_from s (p.val + 1) := by
        unfold mBi_behind
        rw [if_pos hn]
        have := hp y List.mem_cons_self
        rw [show mBi_place s (s.2 0 y) = p from this]
      rw [e]
      exact hT
    | cons w ws =>
      have hn : ¬ s.1 2 y = 0 := by rw [sg2.1]; exact sg2.2.1
      have e : mBi_behind s y = s.1 2 y := by
        unfold mBi_behind
        rw [if_neg hn]
      rw [e]
      exact ih sg2 (by simp) (fun x hx => hp x (List.mem_cons_of_mem _ hx)) hT
theorem Sq_bins {s : zT} {ln : List zS} {bn : zP → List zS} (h : BI s ln bn) {R : Nat} (hR : (s.2 4 3).toNatClampNeg = R) (hR4 : R ≤ 4096) : ∀ (n p : Nat), p + n = R → Sq (mBi_behind s) (mBi_fromL s n p) ((List.range' p n).flatMap (fun q => bn (Fin.ofNat 4096 q))) := by
  intro n
  induction n with
  | zero => intro p _; rfl
  | succ n ih =>
    intro p hp
    have i := ih (p + 1) (by omega)
    have ep : (Fin.ofNat 4096 p).val = p := Nat.mod_eq_of_lt (by omega)
    have hb := (h.2.2.2.2.2 (Fin.ofNat 4096 p)).1.1
    have hpl : ∀ x ∈ bn (Fin.ofNat 4096 p), plc s x = Fin.ofNat 4096 p := fun x hx => ((BI_mem h).mp hx).2
    have sg := hb.1
    rw [ep] at sg
    rw [List.range'_succ, List.flatMap_cons, mBi_fromL]
    by_cases c : s.1 4 p = 0
    · rw [if_pos c]
      have e : bn (Fin.ofNat 4096 p) = [] := by
        cases hc : bn (Fin.ofNat 4096 p) with
        | nil => rfl
        | cons y ys =>
          rw [hc] at sg
          exact absurd (sg.1.symm.trans c) sg.2.1
      rw [e, List.nil_append]
      exact i
    · rw [if_neg c]
      refine Sq_chain sg (fun e => c ?_) hpl ?_
      · rw [e] at sg
        exact sg
      · rw [ep]
        unfold mBi_from
        rw [hR, show R - (p + 1) = n by omega]
        exact i
theorem Sq_walk {s : zT} : ∀ {l : List zS} {a : zS} {i : Nat} (hi : i < l.length), Sq (mBM_behind s) a l → mBM_walkL s i a = l[i] := by
  intro l
  induction l with
  | nil => intro a i hi; simp at hi
  | cons x xs ih =>
    intro a i hi h
    cases i with
    | zero => exact h.1
    | succ i =>
      have hi' : i < xs.length := by simpa using hi
      show mBM_walkL s i (mBM_behind s a) = xs[i]
      rw [h.1]
      exact ih hi' h.2.2
def hsh (h : Int32) (e : Int32 × Int32) : Int32 := 31 * (31 * h + e.1) + e.2
theorem Sq_hash {s : zT} : ∀ {l : List zS} {a : zS} {h : Int32}, Sq (mBM_behind s) a l → mBM_hashL s l.length h a = (l.map (kn s)).foldl hsh h := by
  intro l
  induction l with
  | nil => intro a h _; rfl
  | cons x xs ih =>
    intro a h q
    show mBM_hashL s xs.length (31 * (31 * h + s.2 0 a) + s.2 3 a) (mBM_behind s a) = _
    rw [q.1]
    exact ih q.2.2
theorem Sq_mid {f : zS → zS} : ∀ {l1 l2 : List zS} {a x : zS}, Sq f a (l1 ++ x :: l2) → Sq f (f x) l2 := by
  intro l1
  induction l1 with
  | nil => intro l2 a x h; exact h.2.2
  | cons y ys ih => intro l2 a x h; exact ih h.2.2
/-- the pairs, in the order that is told -/
def okv (m : Int32) (R : Nat) (pl : Int32 → Nat) (kv : List (Int32 × Int32)) : List (Int32 × Int32) := if m = 0 then (List.range R).flatMap (fun p => kv.filter (fun e => decide (pl e.1 = p))) else kv
theorem Ab_order {s : zT} {kv : List (Int32 × Int32)} (h : Ab s kv) : ∃ od : List zS, Sq (mBM_behind s) (mBM_first s) od ∧ od.map (kn s) = okv (s.2 4 0) (s.2 4 3).toNatClampNeg (fun k => (mBi_place s k).val) kv ∧ od.length = kv.length ∧ ∀ x ∈ od, mBi_find s (s.2 0 x) = x := by
  obtain ⟨ln, fr, bn, hI, rfl⟩ := h
  have hr := RM_rok hI.1.2.2.2.1
  have hB := hI.1.2.1
  unfold okv
  by_cases c : s.2 4 0 = 0
  · rw [if_pos c]
    have hR4 := rok_le hr
    have h2 : s.2 4 0 ≠ 2 := fun q => by rw [q] at c; exact absurd c (by decide)
    have hE := hI.1.2.2.1 h2
    have q := Sq_bins hB (R := (s.2 4 3).toNatClampNeg) rfl hR4 (s.2 4 3).toNatClampNeg 0 (Nat.zero_add _)
    rw [← List.range_eq_range'] at q
    have ef : mBM_first s = mBi_fromL s (s.2 4 3).toNatClampNeg 0 := by
      unfold mBM_first
      rw [if_pos c]
      rfl
    refine ⟨_, by rw [ef]; exact Sq_congr (fun x => by unfold mBM_behind; rw [if_pos c]) q, ?_, ?_, ?_⟩
    · have key : ∀ l : List Nat, (∀ p ∈ l, p < 4096) → (l.flatMap (fun q => bn (Fin.ofNat 4096 q))).map (kn s) = l.flatMap (fun p => (ln.map (kn s)).filter (fun e => decide ((mBi_place s e.1).val = p))) := by
        intro l
        induction l with
        | nil => intro _; rfl
        | cons p ps ih =>
          intro hp
          rw [List.flatMap_cons, List.flatMap_cons, List.map_append, ih (fun q hq => hp q (List.mem_cons_of_mem _ hq)), hE (Fin.ofNat 4096 p), List.filter_map]
          congr 2
          refine List.filter_congr (fun x _ => ?_)
          have hp4 := hp p List.mem_cons_self
          have : (plc s x = Fin.ofNat 4096 p) ↔ ((plc s x).val = p) := by
            rw [Fin.ext_iff]
            show _ = p % 4096 ↔ _
            rw [Nat.mod_eq_of_lt hp4]
          simp only [this]
          rfl
      exact key _ (fun p hp => by have := List.mem_range.mp hp; omega)
    · rw [List.length_map]
      exact BI_flat hB hr
    · intro x hx
      obtain ⟨p, -, hp⟩ := List.mem_flatMap.mp hx
      exact (BI_find hB _).1 x ((BI_mem hB).mp hp).1 rfl
  · rw [if_neg c]
    have ef : mBM_first s = s.1 9 0 := by
      unfold mBM_first
      rw [if_neg c]
    refine ⟨ln, by rw [ef]; exact Sq_congr (fun x => by unfold mBM_behind; rw [if_neg c]) (Sq_line hI.1.1.1), rfl, by rw [List.length_map], fun x hx => (BI_find hB _).1 x hx rfl⟩
abbrev okvS (s : zT) (kv : List (Int32 × Int32)) : List (Int32 × Int32) := okv (s.2 4 0) (s.2 4 3).toNatClampNeg (fun k => (mBi_place s k).val) kv
theorem Ab_okl {s : zT} {kv : List (Int32 × Int32)} (h : Ab s kv) : (okvS s kv).length = kv.length := by
  obtain ⟨od, -, h2, h3, -⟩ := Ab_order h
  have h2 : od.map (kn s) = okvS s kv := h2
  rw [← h2, List.length_map]
  exact h3
theorem Ab_walk {s : zT} {kv : List (Int32 × Int32)} {i : Int32} (h : Ab s kv) (h1 : ¬ i < 0) (h2 : i.toNatClampNeg < (okvS s kv).length) : mBM_at s i = ((okvS s kv)[i.toNatClampNeg]).1 := by
  obtain ⟨od, o1, o2, o3, -⟩ := Ab_order h
  unfold mBM_at
  have hi : i.toNatClampNeg < od.length := by
    rw [Ab_okl h, ← o3] at h2
    exact h2
  rw [Sq_walk hi o1]
  have e : (od.map (kn s))[i.toNatClampNeg]'(by rw [List.length_map]; exact hi) = kn s od[i.toNatClampNeg] := List.getElem_map _
  have e2 : (okvS s kv)[i.toNatClampNeg] = (od.map (kn s))[i.toNatClampNeg]'(by rw [List.length_map]; exact hi) := by
    congr 1
    exact o2.symm
  rw [e2, e]
theorem Ab_hash {s : zT} {kv : List (Int32 × Int32)} (h : Ab s kv) : mBM_hash s = (okvS s kv).foldl hsh 1 := by
  obtain ⟨od, o1, o2, o3, -⟩ := Ab_order h
  obtain ⟨c1, c2, -, -⟩ := Ab_cnt h
  unfold mBM_hash
  rw [c1, nI_clamp (by omega), ← o3, Sq_hash o1, o2]
theorem Ab_after {s : zT} {kv a1 a2 : List (Int32 × Int32)} {k y : Int32} (h : Ab s kv) (e : okvS s kv = a1 ++ (k, y) :: a2) : (a2 = [] → mBM_after s k = 0) ∧ ∀ e2 a3, a2 = e2 :: a3 → mBM_after s k ≠ 0 ∧ s.2 0 (mBM_after s k) = e2.1 := by
  obtain ⟨od, o1, o2, o3, o4⟩ := Ab_order h
  have o2 : od.map (kn s) = okvS s kv := o2
  rw [e] at o2
  obtain ⟨l1, lr, rfl, e1, er⟩ := List.map_eq_append_iff.mp o2
  obtain ⟨a, l2, rfl, ea, e2⟩ := List.map_eq_cons_iff.mp er
  have hk : s.2 0 a = k := congrArg Prod.fst ea
  have hf : mBi_find s k = a := by rw [← hk]; exact o4 a (by simp)
  have q := Sq_mid o1
  have a0 : a ≠ 0 := by
    have : ∀ {l1 l2 : List zS} {b x : zS} {f : zS → zS}, Sq f b (l1 ++ x :: l2) → x ≠ 0 := by
      intro l1
      induction l1 with
      | nil => intro l2 b x f h; exact h.2.1
      | cons y ys ih => intro l2 b x f h; exact ih h.2.2
    exact this o1
  have hA : mBM_after s k = mBM_behind s a := by
    unfold mBM_after
    rw [hf, if_neg a0]
  rw [hA]
  refine ⟨fun c => ?_, fun e3 a3 c => ?_⟩
  · rw [c, List.map_eq_nil_iff] at e2
    rw [e2] at q
    exact q
  · rw [c] at e2
    obtain ⟨b, l3, rfl, eb, -⟩ := List.map_eq_cons_iff.mp e2
    exact ⟨by rw [q.1]; exact q.2.1, by rw [q.1, ← eb]⟩
