/-! THE STATE OF THE CLASS, AND WHAT EACH METHOD DOES TO IT. A slot is one of 2002; rows of slots: 0 before, 1 behind, 2 next, 3 previous, 4 heads, 5 roots, 6 left, 7 right, 8 path, 9 (0 first, 1 last, 2 free); rows of ints: 0 keys, 1 heights, 2 ranks, 3 numbers, 4 (0 mode, 1 most, 2 count, 3 room, 4 function) -/
abbrev zS : Type := Fin 2002
abbrev zP : Type := Fin 4096
abbrev zT : Type := (Nat → Nat → zS) × (Nat → Nat → Int32)
def zs (a : zS) : Int32 := nI a.val
def zp (a : zP) : Int32 := nI a.val
def zb (b : Bool) : Int32 := bif b then 1 else 0
def zup {α : Type} (f : Nat → α) (i : Nat) (v : α) : Nat → α := fun j => if j = i then v else f j
def u1 (s : zT) (r i : Nat) (v : zS) : zT := (fun q => bif Nat.beq q r then zup (s.1 q) i v else s.1 q, s.2)
def u2 (s : zT) (r i : Nat) (v : Int32) : zT := (s.1, fun q => bif Nat.beq q r then zup (s.2 q) i v else s.2 q)
-- Line
def mLn_append (s : zT) (a : zS) : zT :=
  let s := u1 s 0 a (s.1 9 1)
  let s := u1 s 1 a 0
  let s := if s.1 9 1 = 0 then u1 s 9 0 a else u1 s 1 (s.1 9 1) a
  u1 s 9 1 a
def mLn_unlink (s : zT) (a : zS) : zT :=
  let f := s.1 0 a
  let t := s.1 1 a
  let s := if f = 0 then u1 s 9 0 t else u1 s 1 f t
  if t = 0 then u1 s 9 1 f else u1 s 0 t f
def mLn_join (s : zT) : zS × zT :=
  let a := s.1 9 2
  let s := u1 s 9 2 (s.1 1 a)
  let s := mLn_append s a
  (a, u2 s 4 2 (s.2 4 2 + 1))
def mLn_leave (s : zT) (a : zS) : zT :=
  let s := mLn_unlink s a
  let s := u1 s 1 a (s.1 9 2)
  let s := u1 s 9 2 a
  u2 s 4 2 (s.2 4 2 - 1)
def mLn_toEnd (s : zT) (a : zS) : zT := mLn_append (mLn_unlink s a) a
def mLn_drain (s : zT) : zT :=
  let s := if s.1 9 1 = 0 then s else
    let s := u1 s 1 (s.1 9 1) (s.1 9 2)
    u1 s 9 2 (s.1 9 0)
  let s := u1 s 9 0 0
  let s := u1 s 9 1 0
  u2 s 4 2 0
def mLn_rankL : Nat → Nat → zS → zT → zT
  | 0, _, _, s => s
  | n + 1, i, a, s => mLn_rankL n (i + 1) (s.1 1 a) (u2 s 2 a (nI i))
def mLn_rank (s : zT) : zT := mLn_rankL (s.2 4 2).toNatClampNeg 0 (s.1 9 0) s
def mLn_freeL (s : zT) : Nat → Nat → zS → Int32
  | 0, i, _ => nI i
  | n + 1, i, a => if a = 0 then nI i else mLn_freeL s n (i + 1) (s.1 1 a)
def mLn_free (s : zT) : Int32 := mLn_freeL s 2002 0 (s.1 9 2)
def mLn_fa3 (s : zT) (x : Int32) (i : Nat) : Int32 := if nI i + mLn_free s = 2001 then x else x + 1
def mLn_fa2 (s : zT) (x : Int32) (i : Nat) : Int32 := if nI i = s.2 4 2 then mLn_fa3 s x i else mLn_fa3 s (x + 1) i
def mLn_fa1 (s : zT) (x : Int32) (i : Nat) (f : zS) : Int32 := if f = s.1 9 1 then mLn_fa2 s x i else mLn_fa2 s (x + 1) i
def mLn_faL (s : zT) : Nat → Nat → Int32 → zS → zS → Int32
  | 0, i, x, f, _ => mLn_fa1 s x i f
  | n + 1, i, x, f, a => if a = 0 then mLn_fa1 s x i f else if s.1 0 a = f then mLn_faL s n (i + 1) x a (s.1 1 a) else mLn_faL s n (i + 1) (x + 1) a (s.1 1 a)
def mLn_faults (s : zT) : Int32 := mLn_faL s 2002 0 0 0 (s.1 9 0)
-- Trees
def mTr_find (s : zT) (key : Int32) : Nat → zS → zS
  | 0, _ => 0
  | n + 1, a => if a = 0 then 0 else if s.2 0 a = key then a else if s.2 0 a ≤ key then mTr_find s key n (s.1 7 a) else mTr_find s key n (s.1 6 a)
def mTr_over (s : zT) (a : zS) : Int32 := if s.2 1 (s.1 6 a) < s.2 1 (s.1 7 a) then 1 + s.2 1 (s.1 7 a) else 1 + s.2 1 (s.1 6 a)
def mTr_liftL (s : zT) (t : zS) : zS × zT :=
  let low := s.1 6 t
  if s.2 1 (s.1 7 low) ≤ s.2 1 (s.1 6 low) then
    let s := u1 s 6 t (s.1 7 low)
    (low, u1 s 7 low t)
  else
    let up := s.1 7 low
    let s := u1 s 7 low (s.1 6 up)
    let s := u1 s 6 up low
    let s := u1 s 6 t (s.1 7 up)
    (up, u1 s 7 up t)
def mTr_liftR (s : zT) (t : zS) : zS × zT :=
  let hi := s.1 7 t
  if s.2 1 (s.1 6 hi) ≤ s.2 1 (s.1 7 hi) then
    let s := u1 s 7 t (s.1 6 hi)
    (hi, u1 s 6 hi t)
  else
    let up := s.1 6 hi
    let s := u1 s 6 hi (s.1 7 up)
    let s := u1 s 7 up hi
    let s := u1 s 7 t (s.1 6 up)
    (up, u1 s 6 up t)
def mTr_bal2 (q : zS × zT) : zS × zT :=
  let s := u2 q.2 1 (q.2.1 6 q.1) (mTr_over q.2 (q.2.1 6 q.1))
  let s := u2 s 1 (s.1 7 q.1) (mTr_over s (s.1 7 q.1))
  (q.1, u2 s 1 q.1 (mTr_over s q.1))
def mTr_bal (s : zT) (t : zS) : zS × zT :=
  let d := s.2 1 (s.1 6 t) - s.2 1 (s.1 7 t)
  if d < -1 then (if d ≤ 1 then mTr_bal2 (mTr_liftR s t) else mTr_bal2 (mTr_liftL s t))
  else if 1 < d then (if d ≤ 1 then mTr_bal2 (mTr_liftR s t) else mTr_bal2 (mTr_liftL s t))
  else (t, u2 s 1 t (mTr_over s t))
def mTr_climb (key : Int32) : Nat → zS → zT → zS × zT
  | 0, t, s => (t, s)
  | n + 1, t, s =>
    let up := s.1 8 n
    let q := if s.2 0 up ≤ key then mTr_bal (u1 s 7 up t) up else mTr_bal (u1 s 6 up t) up
    mTr_climb key n q.1 q.2
def mTr_desc (b : zS) : Nat → Nat → zS → zT → Nat × zT
  | 0, d, _, s => (d, s)
  | n + 1, d, a, s => if a = 0 then (d, s) else if a = b then (d, s) else
    let s := u1 s 8 d a
    if s.2 0 a ≤ s.2 0 b then mTr_desc b n (d + 1) (s.1 7 a) s else mTr_desc b n (d + 1) (s.1 6 a) s
def mTr_with (s : zT) (root a : zS) : zS × zT :=
  let s := u1 s 6 a 0
  let s := u1 s 7 a 0
  let s := u2 s 1 a 1
  let q := mTr_desc a 39 0 root s
  mTr_climb (q.2.2 0 a) q.1 a q.2
def mTr_heir : Nat → Nat → zS → zT → Nat × zS × zT
  | 0, d, h, s => (d, h, s)
  | n + 1, d, h, s => if s.1 6 h = 0 then (d, h, s) else
    let s := u1 s 8 d h
    mTr_heir n (d + 1) (s.1 6 h) s
def mTr_wo2 (s : zT) (a : zS) (q d : Nat) (h : zS) : zS × zT :=
  let s := u1 s 8 q h
  let s := u1 s 6 h (s.1 6 a)
  mTr_climb (s.2 0 h) d (s.1 7 h) s
def mTr_wo1 (a : zS) (q n d : Nat) (h : zS) (s : zT) : zS × zT := mTr_wo2 (mTr_heir n d h s).2.2 a q (mTr_heir n d h s).1 (mTr_heir n d h s).2.1
def mTr_without (s : zT) (root a : zS) : zS × zT :=
  let q := mTr_desc a 39 0 root s
  if q.2.1 7 a = 0 then mTr_climb (q.2.2 0 a) q.1 (q.2.1 6 a) q.2
  else mTr_wo1 a q.1 (39 - q.1) (q.1 + 1) (q.2.1 7 a) q.2
def mTr_fa4 (s : zT) (a : zS) (x : Int32) : Int32 := if s.2 1 a = mTr_over s a then x else x + 1
def mTr_fa3 (s : zT) (a : zS) (x : Int32) : Int32 :=
  let d := s.2 1 (s.1 6 a) - s.2 1 (s.1 7 a)
  if d < -1 then mTr_fa4 s a (x + 1) else if d ≤ 1 then mTr_fa4 s a x else mTr_fa4 s a (x + 1)
def mTr_fa2 (s : zT) (a : zS) (x : Int32) : Int32 := if s.1 7 a = 0 then mTr_fa3 s a x else if s.2 0 a < s.2 0 (s.1 7 a) then mTr_fa3 s a x else mTr_fa3 s a (x + 1)
def mTr_fa (s : zT) (a : zS) : Int32 := if s.1 6 a = 0 then mTr_fa2 s a 0 else if s.2 0 (s.1 6 a) < s.2 0 a then mTr_fa2 s a 0 else mTr_fa2 s a (0 + 1)
def mTr_br (s : zT) (a : zS) : Int32 := (if s.1 6 a = 0 then 0 else 1) + (if s.1 7 a = 0 then 0 else 1)
-- Bins
def mBi_code (s : zT) (key : Int32) : Int32 := if s.2 4 4 = 1 then key &&& 3 else if s.2 4 4 = 2 then key * (-1640531527) else key
def mBi_mix (c : Int32) : Int32 := c ^^^ (c.toUInt32 >>> ((16 : Int32).toUInt32 &&& Int32.toUInt32 31)).toInt32
def mBi_place (s : zT) (key : Int32) : zP := ⟨(mBi_mix (mBi_code s key) &&& (s.2 4 3 - 1)).toNatClampNeg % 4096, Nat.mod_lt _ (by decide)⟩
def mBi_append (s : zT) (p : zP) (a : zS) : zT :=
  let h := s.1 4 p
  let s := u1 s 2 a 0
  if h = 0 then
    let s := u1 s 4 p a
    u1 s 3 a a
  else
    let l := s.1 3 h
    let s := u1 s 2 l a
    let s := u1 s 3 a l
    u1 s 3 h a
def mBi_unlink (s : zT) (p : zP) (a : zS) : zT :=
  let h := s.1 4 p
  let f := s.1 3 a
  let t := s.1 2 a
  let s := if a = h then u1 s 4 p t else u1 s 2 f t
  if t = 0 then (if a = h then s else u1 s 3 h f) else u1 s 3 t f
def mBi_longL (s : zT) : Nat → zS → zS
  | 0, a => a
  | n + 1, a => if a = 0 then a else mBi_longL s n (s.1 2 a)
def mBi_long (s : zT) (p : zP) : Bool := !decide (mBi_longL s 8 (s.1 4 p) = 0)
def mBi_lenL (s : zT) : Nat → Nat → zS → Int32
  | 0, i, _ => nI i
  | n + 1, i, a => if a = 0 then nI i else mBi_lenL s n (i + 1) (s.1 2 a)
def mBi_len (s : zT) (p : zP) : Int32 := mBi_lenL s 2002 0 (s.1 4 p)
def mBi_findL (s : zT) (key : Int32) : Nat → zS → zS
  | 0, _ => 0
  | n + 1, a => if a = 0 then 0 else if s.2 0 a = key then a else mBi_findL s key n (s.1 2 a)
def mBi_find (s : zT) (key : Int32) : zS := if s.1 5 (mBi_place s key) = 0 then mBi_findL s key 8 (s.1 4 (mBi_place s key)) else mTr_find s key 40 (s.1 5 (mBi_place s key))
def mBi_fromL (s : zT) : Nat → Nat → zS
  | 0, _ => 0
  | n + 1, p => if s.1 4 p = 0 then mBi_fromL s n (p + 1) else s.1 4 p
def mBi_from (s : zT) (p : Nat) : zS := mBi_fromL s ((s.2 4 3).toNatClampNeg - p) p
def mBi_behind (s : zT) (a : zS) : zS := if s.1 2 a = 0 then mBi_from s ((mBi_place s (s.2 0 a)).val + 1) else s.1 2 a
def mBi_addL (p : zP) : Nat → zS → zT → zT
  | 0, _, s => s
  | n + 1, a, s =>
    let q := mTr_with s (s.1 5 p) a
    let s := u1 q.2 5 p q.1
    mBi_addL p n (s.1 2 a) s
def mBi_add (s : zT) (a : zS) : zT :=
  let p := mBi_place s (s.2 0 a)
  let s := mBi_append s p a
  if s.1 5 p = 0 then (if mBi_long s p then mBi_addL p 9 (s.1 4 p) s else s)
  else
    let q := mTr_with s (s.1 5 p) a
    u1 q.2 5 p q.1
def mBi_remove (s : zT) (a : zS) : zT :=
  let p := mBi_place s (s.2 0 a)
  let s := mBi_unlink s p a
  if s.1 5 p = 0 then s
  else
    let q := mTr_without s (s.1 5 p) a
    if 3 ≤ q.2.2 1 q.1 then u1 q.2 5 p q.1 else u1 q.2 5 p 0
def mFillL (s : zT) (r n : Nat) : zT := (fun q => bif Nat.beq q r then (fun i => if i < n then 0 else s.1 q i) else s.1 q, s.2)
def mFill (s : zT) (r : Nat) : zT := mFillL s r 4096
def mBi_drain (s : zT) : zT := mFill (mFill s 4) 5
def mBi_begin (s : zT) (f : Int32) : zT := u2 (u2 (mBi_drain s) 4 3 16) 4 4 f
def mBi_tight (s : zT) (c : Int32) : Bool := !decide (c * 4 ≤ s.2 4 3 * 3) && !decide (4096 ≤ s.2 4 3)
def mBi_stretch (s : zT) : zT := u2 (mBi_drain s) 4 3 ((mBi_drain s).2 4 3 * 2)
def mBi_tfL (s : zT) (len : Int32) : Nat → Int32 → Int32 → zS → Int32
  | 0, x, b, _ => if b = len - 1 then x else x + 1
  | n + 1, x, b, a => mBi_tfL s len n (x + mTr_fa s a) (b + mTr_br s a) (s.1 2 a)
def mBi_tf (s : zT) (p : zP) : Int32 :=
  if s.1 5 p = 0 then (if mBi_len s p ≤ 8 then 0 else 1)
  else if 3 ≤ s.2 1 (s.1 5 p) then mBi_tfL s (mBi_len s p) (mBi_len s p).toNatClampNeg 0 0 (s.1 4 p)
  else mBi_tfL s (mBi_len s p) (mBi_len s p).toNatClampNeg 1 0 (s.1 4 p)
def mBi_fa1 (s : zT) (p : zP) (x : Int32) (f : zS) : Int32 := if f = 0 then x + mBi_tf s p else if s.1 3 (s.1 4 p) = f then x + mBi_tf s p else (x + 1) + mBi_tf s p
def mBi_faL2 (s : zT) (a f : zS) (x : Int32) : Int32 := if f = 0 then x else if s.1 3 a = f then x else x + 1
def mBi_faL1 (s : zT) (p : zP) (a f : zS) (x : Int32) : Int32 := if mBi_place s (s.2 0 a) = p then (if mBi_find s (s.2 0 a) = a then mBi_faL2 s a f x else mBi_faL2 s a f (x + 1)) else mBi_faL2 s a f (x + 1)
def mBi_faL (s : zT) (p : zP) : Nat → Int32 → zS → zS → Int32
  | 0, x, f, _ => mBi_fa1 s p x f
  | n + 1, x, f, a => if a = 0 then mBi_fa1 s p x f else mBi_faL s p n (mBi_faL1 s p a f x) a (s.1 2 a)
def mBi_fa (s : zT) (p : zP) : Int32 := mBi_faL s p 2002 0 0 (s.1 4 p)
def mBi_faults2 (s : zT) (c x : Int32) : Int32 := if mBi_tight s c then x + 1 else x
def mBi_faults1 (s : zT) (c x y : Int32) : Int32 := if y = c then mBi_faults2 s c x else mBi_faults2 s c (x + 1)
def mBi_faultsL (s : zT) (c : Int32) : Nat → Nat → Int32 → Int32 → Int32
  | 0, _, x, y => mBi_faults1 s c x y
  | n + 1, i, x, y => mBi_faultsL s c n (i + 1) (x + mBi_fa s (Fin.ofNat 4096 i)) (y + mBi_len s (Fin.ofNat 4096 i))
def mBi_faults (s : zT) (c : Int32) : Int32 := mBi_faultsL s c (s.2 4 3).toNatClampNeg 0 0 0
-- BinMap
def mBM_isMode (mode most : Int32) : Bool :=
  if mode = 2 then !decide (most < 1) && !decide (2000 < most) else !decide (mode < 0) && (!decide (2 ≤ mode) && decide (most = 0))
def mBM_fits (s : zT) (a : zS) : Bool := !decide (a = 0) || (decide (s.2 4 0 = 2) || !decide (2000 ≤ s.2 4 2))
def mBM_touch (s : zT) (a : zS) : zT := if s.2 4 0 = 2 then mLn_toEnd s a else s
def mBM_change (s : zT) (a : zS) (x : Int32) : zT := mBM_touch (u2 s 3 a x) a
def mBM_go (s : zT) (a : zS) : zT := mLn_leave (mBi_remove s a) a
def mBM_againL : Nat → zS → zT → zT
  | 0, _, s => s
  | n + 1, a, s =>
    let s := mBi_add s a
    mBM_againL n (s.1 1 a) s
def mBM_come2 (s : zT) : zT := if s.2 4 0 = 2 then (if s.2 4 2 ≤ s.2 4 1 then s else mBM_go s (s.1 9 0)) else s
def mBM_come (s : zT) (k x : Int32) : zT :=
  let q := mLn_join s
  let s := u2 q.2 3 q.1 x
  let s := u2 s 0 q.1 k
  let s := mBi_add s q.1
  if mBi_tight s (s.2 4 2) then
    let s := mBi_stretch s
    mBM_come2 (mBM_againL (s.2 4 2).toNatClampNeg (s.1 9 0) s)
  else mBM_come2 s
def mBM_first (s : zT) : zS := if s.2 4 0 = 0 then mBi_from s 0 else s.1 9 0
def mBM_behind (s : zT) (a : zS) : zS := if s.2 4 0 = 0 then mBi_behind s a else s.1 1 a
def mBM_over (s : zT) (a : zS) : Bool := !decide (s.2 4 0 = 2) && (!decide (s.1 2 a = 0) && !decide (s.2 2 a ≤ s.2 2 (s.1 2 a)))
def mBM_fbL1 (s : zT) (a : zS) (x : Int32) : Int32 := if mBM_over s a then x + 1 else x
def mBM_fbL (s : zT) : Nat → Int32 → zS → Int32
  | 0, x, _ => x
  | n + 1, x, a => mBM_fbL s n (if mBi_find s (s.2 0 a) = a then mBM_fbL1 s a x else mBM_fbL1 s a (x + 1)) (s.1 1 a)
def mBM_fb (s : zT) : Int32 × zT := (mBM_fbL (mLn_rank s) ((mLn_rank s).2 4 2).toNatClampNeg 0 ((mLn_rank s).1 9 0), mLn_rank s)
def mBM_wrong (s : zT) : Int32 × zT :=
  let x := mLn_faults s + mBi_faults s (s.2 4 2)
  let m : Int32 := if s.2 4 0 = 2 then s.2 4 1 else 2000
  let q := mBM_fb s
  ((x + q.1) + (if q.2.2 4 2 ≤ m then 0 else 1), q.2)
def mBM_make (s : zT) (mode f most : Int32) : zT := u2 (u2 (mBi_begin (mLn_drain s) f) 4 0 mode) 4 1 most
def mBM_put (s : zT) (k x : Int32) : Int64 × zT :=
  if mBi_find s k = 0 then (4294967296, mBM_come s k x) else ((s.2 3 (mBi_find s k)).toInt64, mBM_change s (mBi_find s k) x)
def mBM_find (s : zT) (k : Int32) (t : Bool) : Int32 × zT :=
  (s.2 3 (mBi_find s k), if t then mBM_go s (mBi_find s k) else mBM_touch s (mBi_find s k))
def mBM_fillL (step : Int32) : Nat → Nat → Int32 → zT → zT
  | 0, _, _, s => s
  | n + 1, i, key, s =>
    let a := mBi_find s key
    if mBM_fits s a then (if a = 0 then mBM_fillL step n (i + 1) (key + step) (mBM_come s key (nI i)) else mBM_fillL step n (i + 1) (key + step) (mBM_change s a (nI i))) else s
def mBM_walkL (s : zT) : Nat → zS → zS
  | 0, a => a
  | n + 1, a => mBM_walkL s n (mBM_behind s a)
def mBM_at (s : zT) (i : Int32) : Int32 := s.2 0 (mBM_walkL s i.toNatClampNeg (mBM_first s))
def mBM_after (s : zT) (k : Int32) : zS := if mBi_find s k = 0 then 0 else mBM_behind s (mBi_find s k)
def mBM_hashL (s : zT) : Nat → Int32 → zS → Int32
  | 0, h, _ => h
  | n + 1, h, a => mBM_hashL s n (31 * (31 * h + s.2 0 a) + s.2 3 a) (mBM_behind s a)
def mBM_hash (s : zT) : Int32 := mBM_hashL s (s.2 4 2).toNatClampNeg 1 (mBM_first s)

/-! the room is a number of places -/
def rok (s : zT) : Prop := ∃ e : Nat, e ≤ 8 ∧ s.2 4 3 = nI (2 ^ (e + 4))
