section
-- ===== PART A: goes FIRST, ahead of the names: the tables' words, and 'selects' of the private methods out of them =====
/-- a private method of a class that the tables say can be made, by its rows of tables_1 -/
def lw_okq (q : MethodName × Nat) : Prop := (q.1.cls ≠ "java/lang/invoke/MethodHandle" ∧ q.1.cls ≠ "java/lang/invoke/VarHandle") ∧ Cond.instantiable q.1.cls q.2 ∈ tables_1 ∧ Cond.privateMethod q.1 ∈ tables_1 ∧ Cond.instanceMethod q.1 ∈ tables_1
theorem lw_p0 : lw_okq (⟨"BinMap$Bins", "placeOf", "(I)I"⟩, 7) := ⟨⟨by decide +kernel, by decide +kernel⟩, List.mem_of_getElem? (i := 22) (by decide +kernel), List.mem_of_getElem? (i := 125) (by decide +kernel), List.mem_of_getElem? (i := 126) (by decide +kernel)⟩
theorem lw_p1 : lw_okq (⟨"BinMap$Bins", "codeOf", "(I)I"⟩, 7) := ⟨⟨by decide +kernel, by decide +kernel⟩, List.mem_of_getElem? (i := 22) (by decide +kernel), List.mem_of_getElem? (i := 129) (by decide +kernel), List.mem_of_getElem? (i := 130) (by decide +kernel)⟩
theorem lw_p2 : lw_okq (⟨"BinMap", "firstSlot", "()I"⟩, 5) := ⟨⟨by decide +kernel, by decide +kernel⟩, List.mem_of_getElem? (i := 14) (by decide +kernel), List.mem_of_getElem? (i := 169) (by decide +kernel), List.mem_of_getElem? (i := 170) (by decide +kernel)⟩
theorem lw_p3 : lw_okq (⟨"BinMap", "slotBehind", "(I)I"⟩, 5) := ⟨⟨by decide +kernel, by decide +kernel⟩, List.mem_of_getElem? (i := 14) (by decide +kernel), List.mem_of_getElem? (i := 185) (by decide +kernel), List.mem_of_getElem? (i := 186) (by decide +kernel)⟩
theorem lw_p4 : lw_okq (⟨"BinMap$Line", "freeSlots", "()I"⟩, 7) := ⟨⟨by decide +kernel, by decide +kernel⟩, List.mem_of_getElem? (i := 73) (by decide +kernel), List.mem_of_getElem? (i := 206) (by decide +kernel), List.mem_of_getElem? (i := 207) (by decide +kernel)⟩
theorem lw_p5 : lw_okq (⟨"BinMap$Bins", "faultsAt", "(I)I"⟩, 7) := ⟨⟨by decide +kernel, by decide +kernel⟩, List.mem_of_getElem? (i := 22) (by decide +kernel), List.mem_of_getElem? (i := 214) (by decide +kernel), List.mem_of_getElem? (i := 215) (by decide +kernel)⟩
theorem lw_p6 : lw_okq (⟨"BinMap$Bins", "treeFaultsAt", "(I)I"⟩, 7) := ⟨⟨by decide +kernel, by decide +kernel⟩, List.mem_of_getElem? (i := 22) (by decide +kernel), List.mem_of_getElem? (i := 219) (by decide +kernel), List.mem_of_getElem? (i := 220) (by decide +kernel)⟩
theorem lw_p7 : lw_okq (⟨"BinMap$Bins", "lengthOf", "(I)I"⟩, 7) := ⟨⟨by decide +kernel, by decide +kernel⟩, List.mem_of_getElem? (i := 22) (by decide +kernel), List.mem_of_getElem? (i := 223) (by decide +kernel), List.mem_of_getElem? (i := 224) (by decide +kernel)⟩
theorem lw_p8 : lw_okq (⟨"BinMap$Trees", "heightOver", "(I)I"⟩, 5) := ⟨⟨by decide +kernel, by decide +kernel⟩, List.mem_of_getElem? (i := 28) (by decide +kernel), List.mem_of_getElem? (i := 235) (by decide +kernel), List.mem_of_getElem? (i := 236) (by decide +kernel)⟩
theorem lw_p9 : lw_okq (⟨"BinMap", "faultsBetween", "()I"⟩, 5) := ⟨⟨by decide +kernel, by decide +kernel⟩, List.mem_of_getElem? (i := 14) (by decide +kernel), List.mem_of_getElem? (i := 247) (by decide +kernel), List.mem_of_getElem? (i := 248) (by decide +kernel)⟩
theorem lw_p10 : lw_okq (⟨"BinMap", "isOvertaken", "(I)Z"⟩, 5) := ⟨⟨by decide +kernel, by decide +kernel⟩, List.mem_of_getElem? (i := 14) (by decide +kernel), List.mem_of_getElem? (i := 255) (by decide +kernel), List.mem_of_getElem? (i := 256) (by decide +kernel)⟩
theorem lw_p11 : lw_okq (⟨"java/lang/Throwable", "fillInStackTrace", "(I)Ljava/lang/Throwable;"⟩, 6) := ⟨⟨by decide +kernel, by decide +kernel⟩, List.mem_of_getElem? (i := 316) (by decide +kernel), List.mem_of_getElem? (i := 314) (by decide +kernel), List.mem_of_getElem? (i := 315) (by decide +kernel)⟩
theorem lw_p12 : lw_okq (⟨"BinMap", "fits", "(I)Z"⟩, 5) := ⟨⟨by decide +kernel, by decide +kernel⟩, List.mem_of_getElem? (i := 14) (by decide +kernel), List.mem_of_getElem? (i := 354) (by decide +kernel), List.mem_of_getElem? (i := 355) (by decide +kernel)⟩
theorem lw_p13 : lw_okq (⟨"BinMap", "come", "(II)V"⟩, 5) := ⟨⟨by decide +kernel, by decide +kernel⟩, List.mem_of_getElem? (i := 14) (by decide +kernel), List.mem_of_getElem? (i := 373) (by decide +kernel), List.mem_of_getElem? (i := 374) (by decide +kernel)⟩
theorem lw_p14 : lw_okq (⟨"BinMap$Line", "append", "(I)V"⟩, 7) := ⟨⟨by decide +kernel, by decide +kernel⟩, List.mem_of_getElem? (i := 73) (by decide +kernel), List.mem_of_getElem? (i := 381) (by decide +kernel), List.mem_of_getElem? (i := 382) (by decide +kernel)⟩
theorem lw_p15 : lw_okq (⟨"BinMap$Bins", "append", "(II)V"⟩, 7) := ⟨⟨by decide +kernel, by decide +kernel⟩, List.mem_of_getElem? (i := 22) (by decide +kernel), List.mem_of_getElem? (i := 397) (by decide +kernel), List.mem_of_getElem? (i := 398) (by decide +kernel)⟩
def lw_privs_1 : List (MethodName × Nat) := [(⟨"BinMap$Bins", "placeOf", "(I)I"⟩, 7), (⟨"BinMap$Bins", "codeOf", "(I)I"⟩, 7), (⟨"BinMap", "firstSlot", "()I"⟩, 5), (⟨"BinMap", "slotBehind", "(I)I"⟩, 5), (⟨"BinMap$Line", "freeSlots", "()I"⟩, 7), (⟨"BinMap$Bins", "faultsAt", "(I)I"⟩, 7), (⟨"BinMap$Bins", "treeFaultsAt", "(I)I"⟩, 7), (⟨"BinMap$Bins", "lengthOf", "(I)I"⟩, 7), (⟨"BinMap$Trees", "heightOver", "(I)I"⟩, 5), (⟨"BinMap", "faultsBetween", "()I"⟩, 5), (⟨"BinMap", "isOvertaken", "(I)Z"⟩, 5), (⟨"java/lang/Throwable", "fillInStackTrace", "(I)Ljava/lang/Throwable;"⟩, 6), (⟨"BinMap", "fits", "(I)Z"⟩, 5), (⟨"BinMap", "come", "(II)V"⟩, 5), (⟨"BinMap$Line", "append", "(I)V"⟩, 7), (⟨"BinMap$Bins", "append", "(II)V"⟩, 7)]
theorem lw_r1 : ∀ q ∈ lw_privs_1, lw_okq q := List.forall_mem_cons.mpr ⟨lw_p0, List.forall_mem_cons.mpr ⟨lw_p1, List.forall_mem_cons.mpr ⟨lw_p2, List.forall_mem_cons.mpr ⟨lw_p3, List.forall_mem_cons.mpr ⟨lw_p4, List.forall_mem_cons.mpr ⟨lw_p5, List.forall_mem_cons.mpr ⟨lw_p6, List.forall_mem_cons.mpr ⟨lw_p7, List.forall_mem_cons.mpr ⟨lw_p8, List.forall_mem_cons.mpr ⟨lw_p9, List.forall_mem_cons.mpr ⟨lw_p10, List.forall_mem_cons.mpr ⟨lw_p11, List.forall_mem_cons.mpr ⟨lw_p12, List.forall_mem_cons.mpr ⟨lw_p13, List.forall_mem_cons.mpr ⟨lw_p14, List.forall_mem_cons.mpr ⟨lw_p15, fun _ h => absurd h List.not_mem_nil⟩⟩⟩⟩⟩⟩⟩⟩⟩⟩⟩⟩⟩⟩⟩⟩
theorem lw_p16 : lw_okq (⟨"BinMap$Trees", "descend", "(II)I"⟩, 5) := ⟨⟨by decide +kernel, by decide +kernel⟩, List.mem_of_getElem? (i := 28) (by decide +kernel), List.mem_of_getElem? (i := 405) (by decide +kernel), List.mem_of_getElem? (i := 406) (by decide +kernel)⟩
theorem lw_p17 : lw_okq (⟨"BinMap$Trees", "climb", "(III)I"⟩, 5) := ⟨⟨by decide +kernel, by decide +kernel⟩, List.mem_of_getElem? (i := 28) (by decide +kernel), List.mem_of_getElem? (i := 409) (by decide +kernel), List.mem_of_getElem? (i := 410) (by decide +kernel)⟩
theorem lw_p18 : lw_okq (⟨"BinMap$Trees", "balance", "(I)I"⟩, 5) := ⟨⟨by decide +kernel, by decide +kernel⟩, List.mem_of_getElem? (i := 28) (by decide +kernel), List.mem_of_getElem? (i := 413) (by decide +kernel), List.mem_of_getElem? (i := 414) (by decide +kernel)⟩
theorem lw_p19 : lw_okq (⟨"BinMap$Trees", "liftFromLeft", "(I)I"⟩, 5) := ⟨⟨by decide +kernel, by decide +kernel⟩, List.mem_of_getElem? (i := 28) (by decide +kernel), List.mem_of_getElem? (i := 417) (by decide +kernel), List.mem_of_getElem? (i := 418) (by decide +kernel)⟩
theorem lw_p20 : lw_okq (⟨"BinMap$Trees", "liftFromRight", "(I)I"⟩, 5) := ⟨⟨by decide +kernel, by decide +kernel⟩, List.mem_of_getElem? (i := 28) (by decide +kernel), List.mem_of_getElem? (i := 421) (by decide +kernel), List.mem_of_getElem? (i := 422) (by decide +kernel)⟩
theorem lw_p21 : lw_okq (⟨"BinMap$Bins", "isLong", "(I)Z"⟩, 7) := ⟨⟨by decide +kernel, by decide +kernel⟩, List.mem_of_getElem? (i := 22) (by decide +kernel), List.mem_of_getElem? (i := 425) (by decide +kernel), List.mem_of_getElem? (i := 426) (by decide +kernel)⟩
theorem lw_p22 : lw_okq (⟨"BinMap", "go", "(I)V"⟩, 5) := ⟨⟨by decide +kernel, by decide +kernel⟩, List.mem_of_getElem? (i := 14) (by decide +kernel), List.mem_of_getElem? (i := 434) (by decide +kernel), List.mem_of_getElem? (i := 435) (by decide +kernel)⟩
theorem lw_p23 : lw_okq (⟨"BinMap$Bins", "unlink", "(II)V"⟩, 7) := ⟨⟨by decide +kernel, by decide +kernel⟩, List.mem_of_getElem? (i := 22) (by decide +kernel), List.mem_of_getElem? (i := 442) (by decide +kernel), List.mem_of_getElem? (i := 443) (by decide +kernel)⟩
theorem lw_p24 : lw_okq (⟨"BinMap$Line", "unlink", "(I)V"⟩, 7) := ⟨⟨by decide +kernel, by decide +kernel⟩, List.mem_of_getElem? (i := 73) (by decide +kernel), List.mem_of_getElem? (i := 454) (by decide +kernel), List.mem_of_getElem? (i := 455) (by decide +kernel)⟩
theorem lw_p25 : lw_okq (⟨"BinMap", "change", "(II)V"⟩, 5) := ⟨⟨by decide +kernel, by decide +kernel⟩, List.mem_of_getElem? (i := 14) (by decide +kernel), List.mem_of_getElem? (i := 459) (by decide +kernel), List.mem_of_getElem? (i := 460) (by decide +kernel)⟩
theorem lw_p26 : lw_okq (⟨"BinMap", "touch", "(I)V"⟩, 5) := ⟨⟨by decide +kernel, by decide +kernel⟩, List.mem_of_getElem? (i := 14) (by decide +kernel), List.mem_of_getElem? (i := 463) (by decide +kernel), List.mem_of_getElem? (i := 464) (by decide +kernel)⟩
theorem lw_p27 : lw_okq (⟨"BinMapModel", "fail", "(I)I"⟩, 10) := ⟨⟨by decide +kernel, by decide +kernel⟩, List.mem_of_getElem? (i := 515) (by decide +kernel), List.mem_of_getElem? (i := 560) (by decide +kernel), List.mem_of_getElem? (i := 561) (by decide +kernel)⟩
theorem lw_p28 : lw_okq (⟨"BinMapModel", "full", "(I)Z"⟩, 10) := ⟨⟨by decide +kernel, by decide +kernel⟩, List.mem_of_getElem? (i := 515) (by decide +kernel), List.mem_of_getElem? (i := 568) (by decide +kernel), List.mem_of_getElem? (i := 569) (by decide +kernel)⟩
theorem lw_p29 : lw_okq (⟨"BinMapModel", "at1", "(I)I"⟩, 10) := ⟨⟨by decide +kernel, by decide +kernel⟩, List.mem_of_getElem? (i := 515) (by decide +kernel), List.mem_of_getElem? (i := 572) (by decide +kernel), List.mem_of_getElem? (i := 573) (by decide +kernel)⟩
theorem lw_p30 : lw_okq (⟨"BinMapModel", "enter", "(II)V"⟩, 10) := ⟨⟨by decide +kernel, by decide +kernel⟩, List.mem_of_getElem? (i := 515) (by decide +kernel), List.mem_of_getElem? (i := 577) (by decide +kernel), List.mem_of_getElem? (i := 578) (by decide +kernel)⟩
theorem lw_p31 : lw_okq (⟨"BinMapModel", "touch", "(I)V"⟩, 10) := ⟨⟨by decide +kernel, by decide +kernel⟩, List.mem_of_getElem? (i := 515) (by decide +kernel), List.mem_of_getElem? (i := 581) (by decide +kernel), List.mem_of_getElem? (i := 582) (by decide +kernel)⟩
def lw_privs_2 : List (MethodName × Nat) := [(⟨"BinMap$Trees", "descend", "(II)I"⟩, 5), (⟨"BinMap$Trees", "climb", "(III)I"⟩, 5), (⟨"BinMap$Trees", "balance", "(I)I"⟩, 5), (⟨"BinMap$Trees", "liftFromLeft", "(I)I"⟩, 5), (⟨"BinMap$Trees", "liftFromRight", "(I)I"⟩, 5), (⟨"BinMap$Bins", "isLong", "(I)Z"⟩, 7), (⟨"BinMap", "go", "(I)V"⟩, 5), (⟨"BinMap$Bins", "unlink", "(II)V"⟩, 7), (⟨"BinMap$Line", "unlink", "(I)V"⟩, 7), (⟨"BinMap", "change", "(II)V"⟩, 5), (⟨"BinMap", "touch", "(I)V"⟩, 5), (⟨"BinMapModel", "fail", "(I)I"⟩, 10), (⟨"BinMapModel", "full", "(I)Z"⟩, 10), (⟨"BinMapModel", "at1", "(I)I"⟩, 10), (⟨"BinMapModel", "enter", "(II)V"⟩, 10), (⟨"BinMapModel", "touch", "(I)V"⟩, 10)]
theorem lw_r2 : ∀ q ∈ lw_privs_2, lw_okq q := List.forall_mem_cons.mpr ⟨lw_p16, List.forall_mem_cons.mpr ⟨lw_p17, List.forall_mem_cons.mpr ⟨lw_p18, List.forall_mem_cons.mpr ⟨lw_p19, List.forall_mem_cons.mpr ⟨lw_p20, List.forall_mem_cons.mpr ⟨lw_p21, List.forall_mem_cons.mpr ⟨lw_p22, List.forall_mem_cons.mpr ⟨lw_p23, List.forall_mem_cons.mpr ⟨lw_p24, List.forall_mem_cons.mpr ⟨lw_p25, List.forall_mem_cons.mpr ⟨lw_p26, List.forall_mem_cons.mpr ⟨lw_p27, List.forall_mem_cons.mpr ⟨lw_p28, List.forall_mem_cons.mpr ⟨lw_p29, List.forall_mem_cons.mpr ⟨lw_p30, List.forall_mem_cons.mpr ⟨lw_p31, fun _ h => absurd h List.not_mem_nil⟩⟩⟩⟩⟩⟩⟩⟩⟩⟩⟩⟩⟩⟩⟩⟩
theorem lw_p32 : lw_okq (⟨"BinMapModel", "removeAt", "(I)V"⟩, 10) := ⟨⟨by decide +kernel, by decide +kernel⟩, List.mem_of_getElem? (i := 515) (by decide +kernel), List.mem_of_getElem? (i := 585) (by decide +kernel), List.mem_of_getElem? (i := 586) (by decide +kernel)⟩
theorem lw_p33 : lw_okq (⟨"BinMapModel", "append", "(II)V"⟩, 10) := ⟨⟨by decide +kernel, by decide +kernel⟩, List.mem_of_getElem? (i := 515) (by decide +kernel), List.mem_of_getElem? (i := 589) (by decide +kernel), List.mem_of_getElem? (i := 590) (by decide +kernel)⟩
theorem lw_p34 : lw_okq (⟨"BinMapModel", "lay", "()V"⟩, 10) := ⟨⟨by decide +kernel, by decide +kernel⟩, List.mem_of_getElem? (i := 515) (by decide +kernel), List.mem_of_getElem? (i := 609) (by decide +kernel), List.mem_of_getElem? (i := 610) (by decide +kernel)⟩
theorem lw_p35 : lw_okq (⟨"BinMapModel", "place", "(I)I"⟩, 10) := ⟨⟨by decide +kernel, by decide +kernel⟩, List.mem_of_getElem? (i := 515) (by decide +kernel), List.mem_of_getElem? (i := 613) (by decide +kernel), List.mem_of_getElem? (i := 614) (by decide +kernel)⟩
def lw_privs_3 : List (MethodName × Nat) := [(⟨"BinMapModel", "removeAt", "(I)V"⟩, 10), (⟨"BinMapModel", "append", "(II)V"⟩, 10), (⟨"BinMapModel", "lay", "()V"⟩, 10), (⟨"BinMapModel", "place", "(I)I"⟩, 10)]
theorem lw_r3 : ∀ q ∈ lw_privs_3, lw_okq q := List.forall_mem_cons.mpr ⟨lw_p32, List.forall_mem_cons.mpr ⟨lw_p33, List.forall_mem_cons.mpr ⟨lw_p34, List.forall_mem_cons.mpr ⟨lw_p35, fun _ h => absurd h List.not_mem_nil⟩⟩⟩⟩
def lw_privs : List (MethodName × Nat) := lw_privs_1 ++ (lw_privs_2 ++ (lw_privs_3))
def lw_tbl : List Cond := k2_sels lw_privs ++ tables_1
theorem lw_privs_ok : ∀ q ∈ lw_privs, lw_okq q := by
  show ∀ q ∈ lw_privs_1 ++ (lw_privs_2 ++ (lw_privs_3)), lw_okq q
  exact List.forall_mem_append.mpr ⟨lw_r1, List.forall_mem_append.mpr ⟨lw_r2, lw_r3⟩⟩

def RX0 : String := "BinMap$Bins"
def TX0 : u_T := fun k => match k with
  | 0 => ("BinMap$Bins", "trees", "LBinMap$Trees;", true)
  | 1 => ("BinMap$Bins", "next", "[I", true)
  | 2 => ("BinMap$Bins", "previous", "[I", true)
  | 3 => ("BinMap$Bins", "heads", "[I", true)
  | 4 => ("BinMap$Bins", "roots", "[I", true)
  | 5 => ("BinMap$Bins", "room", "I", false)
  | _ => ("BinMap$Bins", "function", "I", false)
def tyX0 : Nat → FieldType := fun k => match k with
  | 0 => .object "BinMap$Trees"
  | 1 => .array .int
  | 2 => .array .int
  | 3 => .array .int
  | 4 => .array .int
  | 5 => .int
  | _ => .int
theorem nmX0 : ∀ a, a < 7 → ∀ b, b < 7 → a ≠ b → (TX0 a).2.1 ≠ (TX0 b).2.1 := by decide +kernel
theorem tyX0_ok : ∀ k, k < 7 → parseFieldDescriptor (TX0 k).2.2.1 = some (tyX0 k) := by decide +kernel
theorem iX0 : ∀ w ∈ u_ws RX0 TX0 7, w ∈ lw_tbl := by decide +kernel
def RX1 : String := "BinMap$Line"
def TX1 : u_T := fun k => match k with
  | 0 => ("BinMap$Line", "before", "[I", true)
  | 1 => ("BinMap$Line", "behind", "[I", true)
  | 2 => ("BinMap$Line", "ranks", "[I", true)
  | 3 => ("BinMap$Line", "first", "I", false)
  | 4 => ("BinMap$Line", "last", "I", false)
  | 5 => ("BinMap$Line", "count", "I", false)
  | _ => ("BinMap$Line", "free", "I", false)
def tyX1 : Nat → FieldType := fun k => match k with
  | 0 => .array .int
  | 1 => .array .int
  | 2 => .array .int
  | 3 => .int
  | 4 => .int
  | 5 => .int
  | _ => .int
theorem nmX1 : ∀ a, a < 7 → ∀ b, b < 7 → a ≠ b → (TX1 a).2.1 ≠ (TX1 b).2.1 := by decide +kernel
theorem tyX1_ok : ∀ k, k < 7 → parseFieldDescriptor (TX1 k).2.2.1 = some (tyX1 k) := by decide +kernel
theorem iX1 : ∀ w ∈ u_ws RX1 TX1 7, w ∈ lw_tbl := by decide +kernel
def RX2 : String := "BinMap$Trees"
def TX2 : u_T := fun k => match k with
  | 0 => ("BinMap$Trees", "keys", "[I", true)
  | 1 => ("BinMap$Trees", "left", "[I", true)
  | 2 => ("BinMap$Trees", "right", "[I", true)
  | 3 => ("BinMap$Trees", "heights", "[I", true)
  | _ => ("BinMap$Trees", "path", "[I", true)
def tyX2 : Nat → FieldType := fun k => match k with
  | 0 => .array .int
  | 1 => .array .int
  | 2 => .array .int
  | 3 => .array .int
  | _ => .array .int
theorem nmX2 : ∀ a, a < 5 → ∀ b, b < 5 → a ≠ b → (TX2 a).2.1 ≠ (TX2 b).2.1 := by decide +kernel
theorem tyX2_ok : ∀ k, k < 5 → parseFieldDescriptor (TX2 k).2.2.1 = some (tyX2 k) := by decide +kernel
theorem iX2 : ∀ w ∈ u_ws RX2 TX2 5, w ∈ lw_tbl := by decide +kernel
def RX3 : String := "BinMap"
def TX3 : u_T := fun k => match k with
  | 0 => ("BinMap", "bins", "LBinMap$Bins;", true)
  | 1 => ("BinMap", "line", "LBinMap$Line;", true)
  | 2 => ("BinMap", "numbers", "[I", true)
  | 3 => ("BinMap", "mode", "I", false)
  | _ => ("BinMap", "most", "I", false)
def tyX3 : Nat → FieldType := fun k => match k with
  | 0 => .object "BinMap$Bins"
  | 1 => .object "BinMap$Line"
  | 2 => .array .int
  | 3 => .int
  | _ => .int
theorem nmX3 : ∀ a, a < 5 → ∀ b, b < 5 → a ≠ b → (TX3 a).2.1 ≠ (TX3 b).2.1 := by decide +kernel
theorem tyX3_ok : ∀ k, k < 5 → parseFieldDescriptor (TX3 k).2.2.1 = some (tyX3 k) := by decide +kernel
theorem iX3 : ∀ w ∈ u_ws RX3 TX3 5, w ∈ lw_tbl := by decide +kernel
def RX4 : String := "BinMapModel"
def TX4 : u_T := fun k => match k with
  | 0 => ("BinMapModel", "failed", "I", false)
  | 1 => ("BinMapModel", "mode", "I", false)
  | 2 => ("BinMapModel", "function", "I", false)
  | 3 => ("BinMapModel", "most", "I", false)
  | 4 => ("BinMapModel", "room", "I", false)
  | 5 => ("BinMapModel", "size", "I", false)
  | 6 => ("BinMapModel", "keys", "[I", true)
  | 7 => ("BinMapModel", "numbers", "[I", true)
  | 8 => ("BinMapModel", "order", "[I", true)
  | _ => ("BinMapModel", "heads", "[I", true)
def tyX4 : Nat → FieldType := fun k => match k with
  | 0 => .int
  | 1 => .int
  | 2 => .int
  | 3 => .int
  | 4 => .int
  | 5 => .int
  | 6 => .array .int
  | 7 => .array .int
  | 8 => .array .int
  | _ => .array .int
theorem nmX4 : ∀ a, a < 10 → ∀ b, b < 10 → a ≠ b → (TX4 a).2.1 ≠ (TX4 b).2.1 := by decide +kernel
theorem tyX4_ok : ∀ k, k < 10 → parseFieldDescriptor (TX4 k).2.2.1 = some (tyX4 k) := by decide +kernel
theorem iX4 : ∀ w ∈ u_ws RX4 TX4 10, w ∈ lw_tbl := by decide +kernel
def RL : String := "BinMapLaw"
def RJ7 : String := "java/util/Arrays"
abbrev vwCl : List vw_C := [(RX0, TX0, 7), (RX1, TX1, 7), (RX2, TX2, 5), (RX3, TX3, 5), (RX4, TX4, 10)]
abbrev cX3_init : ByteArray := prog_1_method_1_code
def yX3_init : MethodName := ⟨RX3, "<init>", "()V"⟩
abbrev cX0_init : ByteArray := prog_2_method_1_code
def yX0_init : MethodName := ⟨RX0, "<init>", "()V"⟩
abbrev cX2_init : ByteArray := prog_4_method_1_code
def yX2_init : MethodName := ⟨RX2, "<init>", "()V"⟩
abbrev cX1_init : ByteArray := prog_3_method_1_code
def yX1_init : MethodName := ⟨RX1, "<init>", "()V"⟩
abbrev cX3_has : ByteArray := prog_1_method_5_code
def yX3_has : MethodName := ⟨RX3, "has", "(I)Z"⟩
abbrev cX0_slotOf : ByteArray := prog_2_method_8_code
def yX0_slotOf : MethodName := ⟨RX0, "slotOf", "(I)I"⟩
abbrev cX0_placeOf : ByteArray := prog_2_method_19_code
def yX0_placeOf : MethodName := ⟨RX0, "placeOf", "(I)I"⟩
abbrev cX0_codeOf : ByteArray := prog_2_method_20_code
def yX0_codeOf : MethodName := ⟨RX0, "codeOf", "(I)I"⟩
abbrev cX2_slotOf : ByteArray := prog_4_method_5_code
def yX2_slotOf : MethodName := ⟨RX2, "slotOf", "(II)I"⟩
abbrev cX2_keyOf : ByteArray := prog_4_method_2_code
def yX2_keyOf : MethodName := ⟨RX2, "keyOf", "(I)I"⟩
abbrev cX3_size : ByteArray := prog_1_method_9_code
def yX3_size : MethodName := ⟨RX3, "size", "()I"⟩
abbrev cX1_count : ByteArray := prog_3_method_2_code
def yX1_count : MethodName := ⟨RX1, "count", "()I"⟩
abbrev cX3_clear : ByteArray := prog_1_method_10_code
def yX3_clear : MethodName := ⟨RX3, "clear", "()I"⟩
abbrev cX1_drain : ByteArray := prog_3_method_10_code
def yX1_drain : MethodName := ⟨RX1, "drain", "()V"⟩
abbrev cX0_drain : ByteArray := prog_2_method_3_code
def yX0_drain : MethodName := ⟨RX0, "drain", "()V"⟩
abbrev cJ7_fill : ByteArray := prog_12_method_103_code
def yJ7_fill : MethodName := ⟨RJ7, "fill", "([II)V"⟩
abbrev cX3_hash : ByteArray := prog_1_method_11_code
def yX3_hash : MethodName := ⟨RX3, "hash", "()I"⟩
abbrev cX3_firstSlot : ByteArray := prog_1_method_19_code
def yX3_firstSlot : MethodName := ⟨RX3, "firstSlot", "()I"⟩
abbrev cX0_firstFrom : ByteArray := prog_2_method_9_code
def yX0_firstFrom : MethodName := ⟨RX0, "firstFrom", "(I)I"⟩
abbrev cX1_first : ByteArray := prog_3_method_3_code
def yX1_first : MethodName := ⟨RX1, "first", "()I"⟩
abbrev cX0_keyOf : ByteArray := prog_2_method_6_code
def yX0_keyOf : MethodName := ⟨RX0, "keyOf", "(I)I"⟩
abbrev cX3_slotBehind : ByteArray := prog_1_method_20_code
def yX3_slotBehind : MethodName := ⟨RX3, "slotBehind", "(I)I"⟩
abbrev cX0_behind : ByteArray := prog_2_method_11_code
def yX0_behind : MethodName := ⟨RX0, "behind", "(I)I"⟩
abbrev cX1_behind : ByteArray := prog_3_method_4_code
def yX1_behind : MethodName := ⟨RX1, "behind", "(I)I"⟩
abbrev cX3_wrong : ByteArray := prog_1_method_12_code
def yX3_wrong : MethodName := ⟨RX3, "wrong", "()I"⟩
abbrev cX1_faults : ByteArray := prog_3_method_11_code
def yX1_faults : MethodName := ⟨RX1, "faults", "()I"⟩
abbrev cX1_freeSlots : ByteArray := prog_3_method_12_code
def yX1_freeSlots : MethodName := ⟨RX1, "freeSlots", "()I"⟩
abbrev cX0_faults : ByteArray := prog_2_method_14_code
def yX0_faults : MethodName := ⟨RX0, "faults", "(I)I"⟩
abbrev cX0_faultsAt : ByteArray := prog_2_method_15_code
def yX0_faultsAt : MethodName := ⟨RX0, "faultsAt", "(I)I"⟩
abbrev cX0_treeFaultsAt : ByteArray := prog_2_method_16_code
def yX0_treeFaultsAt : MethodName := ⟨RX0, "treeFaultsAt", "(I)I"⟩
abbrev cX0_lengthOf : ByteArray := prog_2_method_17_code
def yX0_lengthOf : MethodName := ⟨RX0, "lengthOf", "(I)I"⟩
abbrev cX2_heightOf : ByteArray := prog_4_method_4_code
def yX2_heightOf : MethodName := ⟨RX2, "heightOf", "(I)I"⟩
abbrev cX2_faultsAt : ByteArray := prog_4_method_8_code
def yX2_faultsAt : MethodName := ⟨RX2, "faultsAt", "(I)I"⟩
abbrev cX2_heightOver : ByteArray := prog_4_method_15_code
def yX2_heightOver : MethodName := ⟨RX2, "heightOver", "(I)I"⟩
abbrev cX2_branchesOf : ByteArray := prog_4_method_9_code
def yX2_branchesOf : MethodName := ⟨RX2, "branchesOf", "(I)I"⟩
abbrev cX0_isTight : ByteArray := prog_2_method_4_code
def yX0_isTight : MethodName := ⟨RX0, "isTight", "(I)Z"⟩
abbrev cX3_faultsBetween : ByteArray := prog_1_method_21_code
def yX3_faultsBetween : MethodName := ⟨RX3, "faultsBetween", "()I"⟩
abbrev cX1_rank : ByteArray := prog_3_method_6_code
def yX1_rank : MethodName := ⟨RX1, "rank", "()V"⟩
abbrev cX3_isOvertaken : ByteArray := prog_1_method_22_code
def yX3_isOvertaken : MethodName := ⟨RX3, "isOvertaken", "(I)Z"⟩
abbrev cX0_nextInPlace : ByteArray := prog_2_method_10_code
def yX0_nextInPlace : MethodName := ⟨RX0, "nextInPlace", "(I)I"⟩
abbrev cX1_rankOf : ByteArray := prog_3_method_5_code
def yX1_rankOf : MethodName := ⟨RX1, "rankOf", "(I)I"⟩
abbrev cL_make : ByteArray := method_3_code
def yL_make : MethodName := ⟨RL, "make", "(LBinMap;III[J)I"⟩
abbrev cX3_make : ByteArray := prog_1_method_2_code
def yX3_make : MethodName := ⟨RX3, "make", "(III)I"⟩
abbrev cX3_isMode : ByteArray := prog_1_method_13_code
def yX3_isMode : MethodName := ⟨RX3, "isMode", "(II)Z"⟩
abbrev cX0_begin : ByteArray := prog_2_method_2_code
def yX0_begin : MethodName := ⟨RX0, "begin", "(I)V"⟩
abbrev cL_put : ByteArray := method_4_code
def yL_put : MethodName := ⟨RL, "put", "(LBinMap;II[J)I"⟩
abbrev cX3_put : ByteArray := prog_1_method_3_code
def yX3_put : MethodName := ⟨RX3, "put", "(II)J"⟩
abbrev cX3_fits : ByteArray := prog_1_method_14_code
def yX3_fits : MethodName := ⟨RX3, "fits", "(I)Z"⟩
abbrev cX3_come : ByteArray := prog_1_method_15_code
def yX3_come : MethodName := ⟨RX3, "come", "(II)V"⟩
abbrev cX1_join : ByteArray := prog_3_method_7_code
def yX1_join : MethodName := ⟨RX1, "join", "()I"⟩
abbrev cX1_append : ByteArray := prog_3_method_13_code
def yX1_append : MethodName := ⟨RX1, "append", "(I)V"⟩
abbrev cX0_name : ByteArray := prog_2_method_7_code
def yX0_name : MethodName := ⟨RX0, "name", "(II)V"⟩
abbrev cX2_name : ByteArray := prog_4_method_3_code
def yX2_name : MethodName := ⟨RX2, "name", "(II)V"⟩
abbrev cX0_add : ByteArray := prog_2_method_12_code
def yX0_add : MethodName := ⟨RX0, "add", "(I)V"⟩
abbrev cX0_append : ByteArray := prog_2_method_21_code
def yX0_append : MethodName := ⟨RX0, "append", "(II)V"⟩
abbrev cX2_with : ByteArray := prog_4_method_6_code
def yX2_with : MethodName := ⟨RX2, "with", "(II)I"⟩
abbrev cX2_descend : ByteArray := prog_4_method_10_code
def yX2_descend : MethodName := ⟨RX2, "descend", "(II)I"⟩
abbrev cX2_climb : ByteArray := prog_4_method_11_code
def yX2_climb : MethodName := ⟨RX2, "climb", "(III)I"⟩
abbrev cX2_balance : ByteArray := prog_4_method_12_code
def yX2_balance : MethodName := ⟨RX2, "balance", "(I)I"⟩
abbrev cX2_liftFromLeft : ByteArray := prog_4_method_13_code
def yX2_liftFromLeft : MethodName := ⟨RX2, "liftFromLeft", "(I)I"⟩
abbrev cX2_liftFromRight : ByteArray := prog_4_method_14_code
def yX2_liftFromRight : MethodName := ⟨RX2, "liftFromRight", "(I)I"⟩
abbrev cX0_isLong : ByteArray := prog_2_method_18_code
def yX0_isLong : MethodName := ⟨RX0, "isLong", "(I)Z"⟩
abbrev cX0_stretch : ByteArray := prog_2_method_5_code
def yX0_stretch : MethodName := ⟨RX0, "stretch", "()V"⟩
abbrev cX3_go : ByteArray := prog_1_method_18_code
def yX3_go : MethodName := ⟨RX3, "go", "(I)V"⟩
abbrev cX0_remove : ByteArray := prog_2_method_13_code
def yX0_remove : MethodName := ⟨RX0, "remove", "(I)V"⟩
abbrev cX0_unlink : ByteArray := prog_2_method_22_code
def yX0_unlink : MethodName := ⟨RX0, "unlink", "(II)V"⟩
abbrev cX2_without : ByteArray := prog_4_method_7_code
def yX2_without : MethodName := ⟨RX2, "without", "(II)I"⟩
abbrev cX1_leave : ByteArray := prog_3_method_8_code
def yX1_leave : MethodName := ⟨RX1, "leave", "(I)V"⟩
abbrev cX1_unlink : ByteArray := prog_3_method_14_code
def yX1_unlink : MethodName := ⟨RX1, "unlink", "(I)V"⟩
abbrev cX3_change : ByteArray := prog_1_method_16_code
def yX3_change : MethodName := ⟨RX3, "change", "(II)V"⟩
abbrev cX3_touch : ByteArray := prog_1_method_17_code
def yX3_touch : MethodName := ⟨RX3, "touch", "(I)V"⟩
abbrev cX1_moveToEnd : ByteArray := prog_3_method_9_code
def yX1_moveToEnd : MethodName := ⟨RX1, "moveToEnd", "(I)V"⟩
abbrev cL_find : ByteArray := method_5_code
def yL_find : MethodName := ⟨RL, "find", "(LBinMap;IZ[J)I"⟩
abbrev cX3_find : ByteArray := prog_1_method_4_code
def yX3_find : MethodName := ⟨RX3, "find", "(IZ)I"⟩
abbrev cL_fill : ByteArray := method_6_code
def yL_fill : MethodName := ⟨RL, "fill", "(LBinMap;III[J)I"⟩
abbrev cX3_fill : ByteArray := prog_1_method_6_code
def yX3_fill : MethodName := ⟨RX3, "fill", "(III)I"⟩
abbrev cL_at : ByteArray := method_7_code
def yL_at : MethodName := ⟨RL, "at", "(LBinMap;I[J)I"⟩
abbrev cX3_at : ByteArray := prog_1_method_7_code
def yX3_at : MethodName := ⟨RX3, "at", "(I)I"⟩
abbrev cL_after : ByteArray := method_8_code
def yL_after : MethodName := ⟨RL, "after", "(LBinMap;I[J)I"⟩
abbrev cX3_after : ByteArray := prog_1_method_8_code
def yX3_after : MethodName := ⟨RX3, "after", "(I)I"⟩
abbrev cX4_init : ByteArray := prog_6_method_1_code
def yX4_init : MethodName := ⟨RX4, "<init>", "()V"⟩
abbrev cX4_thrown : ByteArray := prog_6_method_2_code
def yX4_thrown : MethodName := ⟨RX4, "thrown", "()I"⟩
abbrev cX4_make : ByteArray := prog_6_method_4_code
def yX4_make : MethodName := ⟨RX4, "make", "(III)I"⟩
abbrev cX4_fail : ByteArray := prog_6_method_3_code
def yX4_fail : MethodName := ⟨RX4, "fail", "(I)I"⟩
abbrev cX4_put : ByteArray := prog_6_method_12_code
def yX4_put : MethodName := ⟨RX4, "put", "(II)J"⟩
abbrev cX4_full : ByteArray := prog_6_method_10_code
def yX4_full : MethodName := ⟨RX4, "full", "(I)Z"⟩
abbrev cX4_at1 : ByteArray := prog_6_method_5_code
def yX4_at1 : MethodName := ⟨RX4, "at1", "(I)I"⟩
abbrev cX4_enter : ByteArray := prog_6_method_11_code
def yX4_enter : MethodName := ⟨RX4, "enter", "(II)V"⟩
abbrev cX4_touch : ByteArray := prog_6_method_9_code
def yX4_touch : MethodName := ⟨RX4, "touch", "(I)V"⟩
abbrev cX4_removeAt : ByteArray := prog_6_method_7_code
def yX4_removeAt : MethodName := ⟨RX4, "removeAt", "(I)V"⟩
abbrev cX4_append : ByteArray := prog_6_method_8_code
def yX4_append : MethodName := ⟨RX4, "append", "(II)V"⟩
abbrev cX4_find : ByteArray := prog_6_method_13_code
def yX4_find : MethodName := ⟨RX4, "find", "(IZ)I"⟩
abbrev cX4_has : ByteArray := prog_6_method_14_code
def yX4_has : MethodName := ⟨RX4, "has", "(I)Z"⟩
abbrev cX4_fill : ByteArray := prog_6_method_15_code
def yX4_fill : MethodName := ⟨RX4, "fill", "(III)I"⟩
abbrev cX4_at : ByteArray := prog_6_method_17_code
def yX4_at : MethodName := ⟨RX4, "at", "(I)I"⟩
abbrev cX4_lay : ByteArray := prog_6_method_16_code
def yX4_lay : MethodName := ⟨RX4, "lay", "()V"⟩
abbrev cX4_place : ByteArray := prog_6_method_6_code
def yX4_place : MethodName := ⟨RX4, "place", "(I)I"⟩
abbrev cX4_after : ByteArray := prog_6_method_18_code
def yX4_after : MethodName := ⟨RX4, "after", "(I)I"⟩
abbrev cX4_size : ByteArray := prog_6_method_19_code
def yX4_size : MethodName := ⟨RX4, "size", "()I"⟩
abbrev cX4_clear : ByteArray := prog_6_method_20_code
def yX4_clear : MethodName := ⟨RX4, "clear", "()I"⟩
abbrev cX4_hash : ByteArray := prog_6_method_21_code
def yX4_hash : MethodName := ⟨RX4, "hash", "()I"⟩
abbrev cX4_wrong : ByteArray := prog_6_method_22_code
def yX4_wrong : MethodName := ⟨RX4, "wrong", "()I"⟩
end
section
/-! THE STATE OF THE CLASS, AND WHAT EACH METHOD DOES TO IT. A slot is one of 2002; rows of slots: 0 before, 1 behind, 2 next, 3 previous, 4 heads, 5 roots, 6 left, 7 right, 8 path, 9 (0 first, 1 last, 2 free); rows of ints: 0 keys, 1 heights, 2 ranks, 3 numbers, 4 (0 mode, 1 most, 2 count, 3 room, 4 function) -/
abbrev zS : Type := Fin 2002
abbrev zP : Type := Fin 4096
abbrev zT : Type := (Nat → Nat → zS) × (Nat → Nat → Int32)
def zs (a : zS) : Int32 := nI a.val
def zp (a : zP) : Int32 := nI a.val
def zb (b : Bool) : Int32 := bif b then 1 else 0
def zup {α : Type} (f : Nat → α) (i : Nat) (v : α) : Nat → α := fun j => if j = i then v else f j
def u1 (s : zT) (r i : Nat) (v : zS) : zT := (fun q => bif Nat.beq q r then zup (s.1 q) i v else s.1 q, s.2)
def u2 (s : zT) (r i : Nat) (v : Int32) : zT := (s.1, fun q => bif Nat.beq q r then zup (s.2 q) i v else s.2 q)
-- Line
def mLn_append (s : zT) (a : zS) : zT :=
  let s := u1 s 0 a (s.1 9 1)
  let s := u1 s 1 a 0
  let s := if s.1 9 1 = 0 then u1 s 9 0 a else u1 s 1 (s.1 9 1) a
  u1 s 9 1 a
def mLn_unlink (s : zT) (a : zS) : zT :=
  let f := s.1 0 a
  let t := s.1 1 a
  let s := if f = 0 then u1 s 9 0 t else u1 s 1 f t
  if t = 0 then u1 s 9 1 f else u1 s 0 t f
def mLn_join (s : zT) : zS × zT :=
  let a := s.1 9 2
  let s := u1 s 9 2 (s.1 1 a)
  let s := mLn_append s a
  (a, u2 s 4 2 (s.2 4 2 + 1))
def mLn_leave (s : zT) (a : zS) : zT :=
  let s := mLn_unlink s a
  let s := u1 s 1 a (s.1 9 2)
  let s := u1 s 9 2 a
  u2 s 4 2 (s.2 4 2 - 1)
def mLn_toEnd (s : zT) (a : zS) : zT := mLn_append (mLn_unlink s a) a
def mLn_drain (s : zT) : zT :=
  let s := if s.1 9 1 = 0 then s else
    let s := u1 s 1 (s.1 9 1) (s.1 9 2)
    u1 s 9 2 (s.1 9 0)
  let s := u1 s 9 0 0
  let s := u1 s 9 1 0
  u2 s 4 2 0
def mLn_rankL : Nat → Nat → zS → zT → zT
  | 0, _, _, s => s
  | n + 1, i, a, s => mLn_rankL n (i + 1) (s.1 1 a) (u2 s 2 a (nI i))
def mLn_rank (s : zT) : zT := mLn_rankL (s.2 4 2).toNatClampNeg 0 (s.1 9 0) s
def mLn_freeL (s : zT) : Nat → Nat → zS → Int32
  | 0, i, _ => nI i
  | n + 1, i, a => if a = 0 then nI i else mLn_freeL s n (i + 1) (s.1 1 a)
def mLn_free (s : zT) : Int32 := mLn_freeL s 2002 0 (s.1 9 2)
def mLn_fa3 (s : zT) (x : Int32) (i : Nat) : Int32 := if nI i + mLn_free s = 2001 then x else x + 1
def mLn_fa2 (s : zT) (x : Int32) (i : Nat) : Int32 := if nI i = s.2 4 2 then mLn_fa3 s x i else mLn_fa3 s (x + 1) i
def mLn_fa1 (s : zT) (x : Int32) (i : Nat) (f : zS) : Int32 := if f = s.1 9 1 then mLn_fa2 s x i else mLn_fa2 s (x + 1) i
def mLn_faL (s : zT) : Nat → Nat → Int32 → zS → zS → Int32
  | 0, i, x, f, _ => mLn_fa1 s x i f
  | n + 1, i, x, f, a => if a = 0 then mLn_fa1 s x i f else if s.1 0 a = f then mLn_faL s n (i + 1) x a (s.1 1 a) else mLn_faL s n (i + 1) (x + 1) a (s.1 1 a)
def mLn_faults (s : zT) : Int32 := mLn_faL s 2002 0 0 0 (s.1 9 0)
-- Trees
def mTr_find (s : zT) (key : Int32) : Nat → zS → zS
  | 0, _ => 0
  | n + 1, a => if a = 0 then 0 else if s.2 0 a = key then a else if s.2 0 a ≤ key then mTr_find s key n (s.1 7 a) else mTr_find s key n (s.1 6 a)
def mTr_over (s : zT) (a : zS) : Int32 := if s.2 1 (s.1 6 a) < s.2 1 (s.1 7 a) then 1 + s.2 1 (s.1 7 a) else 1 + s.2 1 (s.1 6 a)
def mTr_liftL (s : zT) (t : zS) : zS × zT :=
  let low := s.1 6 t
  if s.2 1 (s.1 7 low) ≤ s.2 1 (s.1 6 low) then
    let s := u1 s 6 t (s.1 7 low)
    (low, u1 s 7 low t)
  else
    let up := s.1 7 low
    let s := u1 s 7 low (s.1 6 up)
    let s := u1 s 6 up low
    let s := u1 s 6 t (s.1 7 up)
    (up, u1 s 7 up t)
def mTr_liftR (s : zT) (t : zS) : zS × zT :=
  let hi := s.1 7 t
  if s.2 1 (s.1 6 hi) ≤ s.2 1 (s.1 7 hi) then
    let s := u1 s 7 t (s.1 6 hi)
    (hi, u1 s 6 hi t)
  else
    let up := s.1 6 hi
    let s := u1 s 6 hi (s.1 7 up)
    let s := u1 s 7 up hi
    let s := u1 s 7 t (s.1 6 up)
    (up, u1 s 6 up t)
def mTr_bal2 (q : zS × zT) : zS × zT :=
  let s := u2 q.2 1 (q.2.1 6 q.1) (mTr_over q.2 (q.2.1 6 q.1))
  let s := u2 s 1 (s.1 7 q.1) (mTr_over s (s.1 7 q.1))
  (q.1, u2 s 1 q.1 (mTr_over s q.1))
def mTr_bal (s : zT) (t : zS) : zS × zT :=
  let d := s.2 1 (s.1 6 t) - s.2 1 (s.1 7 t)
  if d < -1 then (if d ≤ 1 then mTr_bal2 (mTr_liftR s t) else mTr_bal2 (mTr_liftL s t))
  else if 1 < d then (if d ≤ 1 then mTr_bal2 (mTr_liftR s t) else mTr_bal2 (mTr_liftL s t))
  else (t, u2 s 1 t (mTr_over s t))
def mTr_climb (key : Int32) : Nat → zS → zT → zS × zT
  | 0, t, s => (t, s)
  | n + 1, t, s =>
    let up := s.1 8 n
    let q := if s.2 0 up ≤ key then mTr_bal (u1 s 7 up t) up else mTr_bal (u1 s 6 up t) up
    mTr_climb key n q.1 q.2
def mTr_desc (b : zS) : Nat → Nat → zS → zT → Nat × zT
  | 0, d, _, s => (d, s)
  | n + 1, d, a, s => if a = 0 then (d, s) else if a = b then (d, s) else
    let s := u1 s 8 d a
    if s.2 0 a ≤ s.2 0 b then mTr_desc b n (d + 1) (s.1 7 a) s else mTr_desc b n (d + 1) (s.1 6 a) s
def mTr_with (s : zT) (root a : zS) : zS × zT :=
  let s := u1 s 6 a 0
  let s := u1 s 7 a 0
  let s := u2 s 1 a 1
  let q := mTr_desc a 39 0 root s
  mTr_climb (q.2.2 0 a) q.1 a q.2
def mTr_heir : Nat → Nat → zS → zT → Nat × zS × zT
  | 0, d, h, s => (d, h, s)
  | n + 1, d, h, s => if s.1 6 h = 0 then (d, h, s) else
    let s := u1 s 8 d h
    mTr_heir n (d + 1) (s.1 6 h) s
def mTr_wo2 (s : zT) (a : zS) (q d : Nat) (h : zS) : zS × zT :=
  let s := u1 s 8 q h
  let s := u1 s 6 h (s.1 6 a)
  mTr_climb (s.2 0 h) d (s.1 7 h) s
def mTr_wo1 (a : zS) (q n d : Nat) (h : zS) (s : zT) : zS × zT := mTr_wo2 (mTr_heir n d h s).2.2 a q (mTr_heir n d h s).1 (mTr_heir n d h s).2.1
def mTr_without (s : zT) (root a : zS) : zS × zT :=
  let q := mTr_desc a 39 0 root s
  if q.2.1 7 a = 0 then mTr_climb (q.2.2 0 a) q.1 (q.2.1 6 a) q.2
  else mTr_wo1 a q.1 (39 - q.1) (q.1 + 1) (q.2.1 7 a) q.2
def mTr_fa4 (s : zT) (a : zS) (x : Int32) : Int32 := if s.2 1 a = mTr_over s a then x else x + 1
def mTr_fa3 (s : zT) (a : zS) (x : Int32) : Int32 :=
  let d := s.2 1 (s.1 6 a) - s.2 1 (s.1 7 a)
  if d < -1 then mTr_fa4 s a (x + 1) else if d ≤ 1 then mTr_fa4 s a x else mTr_fa4 s a (x + 1)
def mTr_fa2 (s : zT) (a : zS) (x : Int32) : Int32 := if s.1 7 a = 0 then mTr_fa3 s a x else if s.2 0 a < s.2 0 (s.1 7 a) then mTr_fa3 s a x else mTr_fa3 s a (x + 1)
def mTr_fa (s : zT) (a : zS) : Int32 := if s.1 6 a = 0 then mTr_fa2 s a 0 else if s.2 0 (s.1 6 a) < s.2 0 a then mTr_fa2 s a 0 else mTr_fa2 s a (0 + 1)
def mTr_br (s : zT) (a : zS) : Int32 := (if s.1 6 a = 0 then 0 else 1) + (if s.1 7 a = 0 then 0 else 1)
-- Bins
def mBi_code (s : zT) (key : Int32) : Int32 := if s.2 4 4 = 1 then key &&& 3 else if s.2 4 4 = 2 then key * (-1640531527) else key
def mBi_mix (c : Int32) : Int32 := c ^^^ (c.toUInt32 >>> ((16 : Int32).toUInt32 &&& Int32.toUInt32 31)).toInt32
def mBi_place (s : zT) (key : Int32) : zP := ⟨(mBi_mix (mBi_code s key) &&& (s.2 4 3 - 1)).toNatClampNeg % 4096, Nat.mod_lt _ (by decide)⟩
def mBi_append (s : zT) (p : zP) (a : zS) : zT :=
  let h := s.1 4 p
  let s := u1 s 2 a 0
  if h = 0 then
    let s := u1 s 4 p a
    u1 s 3 a a
  else
    let l := s.1 3 h
    let s := u1 s 2 l a
    let s := u1 s 3 a l
    u1 s 3 h a
def mBi_unlink (s : zT) (p : zP) (a : zS) : zT :=
  let h := s.1 4 p
  let f := s.1 3 a
  let t := s.1 2 a
  let s := if a = h then u1 s 4 p t else u1 s 2 f t
  if t = 0 then (if a = h then s else u1 s 3 h f) else u1 s 3 t f
def mBi_longL (s : zT) : Nat → zS → zS
  | 0, a => a
  | n + 1, a => if a = 0 then a else mBi_longL s n (s.1 2 a)
def mBi_long (s : zT) (p : zP) : Bool := !decide (mBi_longL s 8 (s.1 4 p) = 0)
def mBi_lenL (s : zT) : Nat → Nat → zS → Int32
  | 0, i, _ => nI i
  | n + 1, i, a => if a = 0 then nI i else mBi_lenL s n (i + 1) (s.1 2 a)
def mBi_len (s : zT) (p : zP) : Int32 := mBi_lenL s 2002 0 (s.1 4 p)
def mBi_findL (s : zT) (key : Int32) : Nat → zS → zS
  | 0, _ => 0
  | n + 1, a => if a = 0 then 0 else if s.2 0 a = key then a else mBi_findL s key n (s.1 2 a)
def mBi_find (s : zT) (key : Int32) : zS := if s.1 5 (mBi_place s key) = 0 then mBi_findL s key 8 (s.1 4 (mBi_place s key)) else mTr_find s key 40 (s.1 5 (mBi_place s key))
def mBi_fromL (s : zT) : Nat → Nat → zS
  | 0, _ => 0
  | n + 1, p => if s.1 4 p = 0 then mBi_fromL s n (p + 1) else s.1 4 p
def mBi_from (s : zT) (p : Nat) : zS := mBi_fromL s ((s.2 4 3).toNatClampNeg - p) p
def mBi_behind (s : zT) (a : zS) : zS := if s.1 2 a = 0 then mBi_from s ((mBi_place s (s.2 0 a)).val + 1) else s.1 2 a
def mBi_addL (p : zP) : Nat → zS → zT → zT
  | 0, _, s => s
  | n + 1, a, s =>
    let q := mTr_with s (s.1 5 p) a
    let s := u1 q.2 5 p q.1
    mBi_addL p n (s.1 2 a) s
def mBi_add (s : zT) (a : zS) : zT :=
  let p := mBi_place s (s.2 0 a)
  let s := mBi_append s p a
  if s.1 5 p = 0 then (if mBi_long s p then mBi_addL p 9 (s.1 4 p) s else s)
  else
    let q := mTr_with s (s.1 5 p) a
    u1 q.2 5 p q.1
def mBi_remove (s : zT) (a : zS) : zT :=
  let p := mBi_place s (s.2 0 a)
  let s := mBi_unlink s p a
  if s.1 5 p = 0 then s
  else
    let q := mTr_without s (s.1 5 p) a
    if 3 ≤ q.2.2 1 q.1 then u1 q.2 5 p q.1 else u1 q.2 5 p 0
def mFillL (s : zT) (r n : Nat) : zT := (fun q => bif Nat.beq q r then (fun i => if i < n then 0 else s.1 q i) else s.1 q, s.2)
def mFill (s : zT) (r : Nat) : zT := mFillL s r 4096
def mBi_drain (s : zT) : zT := mFill (mFill s 4) 5
def mBi_begin (s : zT) (f : Int32) : zT := u2 (u2 (mBi_drain s) 4 3 16) 4 4 f
def mBi_tight (s : zT) (c : Int32) : Bool := !decide (c * 4 ≤ s.2 4 3 * 3) && !decide (4096 ≤ s.2 4 3)
def mBi_stretch (s : zT) : zT := u2 (mBi_drain s) 4 3 ((mBi_drain s).2 4 3 * 2)
def mBi_tfL (s : zT) (len : Int32) : Nat → Int32 → Int32 → zS → Int32
  | 0, x, b, _ => if b = len - 1 then x else x + 1
  | n + 1, x, b, a => mBi_tfL s len n (x + mTr_fa s a) (b + mTr_br s a) (s.1 2 a)
def mBi_tf (s : zT) (p : zP) : Int32 :=
  if s.1 5 p = 0 then (if mBi_len s p ≤ 8 then 0 else 1)
  else if 3 ≤ s.2 1 (s.1 5 p) then mBi_tfL s (mBi_len s p) (mBi_len s p).toNatClampNeg 0 0 (s.1 4 p)
  else mBi_tfL s (mBi_len s p) (mBi_len s p).toNatClampNeg 1 0 (s.1 4 p)
def mBi_fa1 (s : zT) (p : zP) (x : Int32) (f : zS) : Int32 := if f = 0 then x + mBi_tf s p else if s.1 3 (s.1 4 p) = f then x + mBi_tf s p else (x + 1) + mBi_tf s p
def mBi_faL2 (s : zT) (a f : zS) (x : Int32) : Int32 := if f = 0 then x else if s.1 3 a = f then x else x + 1
def mBi_faL1 (s : zT) (p : zP) (a f : zS) (x : Int32) : Int32 := if mBi_place s (s.2 0 a) = p then (if mBi_find s (s.2 0 a) = a then mBi_faL2 s a f x else mBi_faL2 s a f (x + 1)) else mBi_faL2 s a f (x + 1)
def mBi_faL (s : zT) (p : zP) : Nat → Int32 → zS → zS → Int32
  | 0, x, f, _ => mBi_fa1 s p x f
  | n + 1, x, f, a => if a = 0 then mBi_fa1 s p x f else mBi_faL s p n (mBi_faL1 s p a f x) a (s.1 2 a)
def mBi_fa (s : zT) (p : zP) : Int32 := mBi_faL s p 2002 0 0 (s.1 4 p)
def mBi_faults2 (s : zT) (c x : Int32) : Int32 := if mBi_tight s c then x + 1 else x
def mBi_faults1 (s : zT) (c x y : Int32) : Int32 := if y = c then mBi_faults2 s c x else mBi_faults2 s c (x + 1)
def mBi_faultsL (s : zT) (c : Int32) : Nat → Nat → Int32 → Int32 → Int32
  | 0, _, x, y => mBi_faults1 s c x y
  | n + 1, i, x, y => mBi_faultsL s c n (i + 1) (x + mBi_fa s (Fin.ofNat 4096 i)) (y + mBi_len s (Fin.ofNat 4096 i))
def mBi_faults (s : zT) (c : Int32) : Int32 := mBi_faultsL s c (s.2 4 3).toNatClampNeg 0 0 0
-- BinMap
def mBM_isMode (mode most : Int32) : Bool :=
  if mode = 2 then !decide (most < 1) && !decide (2000 < most) else !decide (mode < 0) && (!decide (2 ≤ mode) && decide (most = 0))
def mBM_fits (s : zT) (a : zS) : Bool := !decide (a = 0) || (decide (s.2 4 0 = 2) || !decide (2000 ≤ s.2 4 2))
def mBM_touch (s : zT) (a : zS) : zT := if s.2 4 0 = 2 then mLn_toEnd s a else s
def mBM_change (s : zT) (a : zS) (x : Int32) : zT := mBM_touch (u2 s 3 a x) a
def mBM_go (s : zT) (a : zS) : zT := mLn_leave (mBi_remove s a) a
def mBM_againL : Nat → zS → zT → zT
  | 0, _, s => s
  | n + 1, a, s =>
    let s := mBi_add s a
    mBM_againL n (s.1 1 a) s
def mBM_come2 (s : zT) : zT := if s.2 4 0 = 2 then (if s.2 4 2 ≤ s.2 4 1 then s else mBM_go s (s.1 9 0)) else s
def mBM_come (s : zT) (k x : Int32) : zT :=
  let q := mLn_join s
  let s := u2 q.2 3 q.1 x
  let s := u2 s 0 q.1 k
  let s := mBi_add s q.1
  if mBi_tight s (s.2 4 2) then
    let s := mBi_stretch s
    mBM_come2 (mBM_againL (s.2 4 2).toNatClampNeg (s.1 9 0) s)
  else mBM_come2 s
def mBM_first (s : zT) : zS := if s.2 4 0 = 0 then mBi_from s 0 else s.1 9 0
def mBM_behind (s : zT) (a : zS) : zS := if s.2 4 0 = 0 then mBi_behind s a else s.1 1 a
def mBM_over (s : zT) (a : zS) : Bool := !decide (s.2 4 0 = 2) && (!decide (s.1 2 a = 0) && !decide (s.2 2 a ≤ s.2 2 (s.1 2 a)))
def mBM_fbL1 (s : zT) (a : zS) (x : Int32) : Int32 := if mBM_over s a then x + 1 else x
def mBM_fbL (s : zT) : Nat → Int32 → zS → Int32
  | 0, x, _ => x
  | n + 1, x, a => mBM_fbL s n (if mBi_find s (s.2 0 a) = a then mBM_fbL1 s a x else mBM_fbL1 s a (x + 1)) (s.1 1 a)
def mBM_fb (s : zT) : Int32 × zT := (mBM_fbL (mLn_rank s) ((mLn_rank s).2 4 2).toNatClampNeg 0 ((mLn_rank s).1 9 0), mLn_rank s)
def mBM_wrong (s : zT) : Int32 × zT :=
  let x := mLn_faults s + mBi_faults s (s.2 4 2)
  let m : Int32 := if s.2 4 0 = 2 then s.2 4 1 else 2000
  let q := mBM_fb s
  ((x + q.1) + (if q.2.2 4 2 ≤ m then 0 else 1), q.2)
def mBM_make (s : zT) (mode f most : Int32) : zT := u2 (u2 (mBi_begin (mLn_drain s) f) 4 0 mode) 4 1 most
def mBM_put (s : zT) (k x : Int32) : Int64 × zT :=
  if mBi_find s k = 0 then (4294967296, mBM_come s k x) else ((s.2 3 (mBi_find s k)).toInt64, mBM_change s (mBi_find s k) x)
def mBM_find (s : zT) (k : Int32) (t : Bool) : Int32 × zT :=
  (s.2 3 (mBi_find s k), if t then mBM_go s (mBi_find s k) else mBM_touch s (mBi_find s k))
def mBM_fillL (step : Int32) : Nat → Nat → Int32 → zT → zT
  | 0, _, _, s => s
  | n + 1, i, key, s =>
    let a := mBi_find s key
    if mBM_fits s a then (if a = 0 then mBM_fillL step n (i + 1) (key + step) (mBM_come s key (nI i)) else mBM_fillL step n (i + 1) (key + step) (mBM_change s a (nI i))) else s
def mBM_walkL (s : zT) : Nat → zS → zS
  | 0, a => a
  | n + 1, a => mBM_walkL s n (mBM_behind s a)
def mBM_at (s : zT) (i : Int32) : Int32 := s.2 0 (mBM_walkL s i.toNatClampNeg (mBM_first s))
def mBM_after (s : zT) (k : Int32) : zS := if mBi_find s k = 0 then 0 else mBM_behind s (mBi_find s k)
def mBM_hashL (s : zT) : Nat → Int32 → zS → Int32
  | 0, h, _ => h
  | n + 1, h, a => mBM_hashL s n (31 * (31 * h + s.2 0 a) + s.2 3 a) (mBM_behind s a)
def mBM_hash (s : zT) : Int32 := mBM_hashL s (s.2 4 2).toNatClampNeg 1 (mBM_first s)

/-! the room is a number of places -/
def rok (s : zT) : Prop := ∃ e : Nat, e ≤ 8 ∧ s.2 4 3 = nI (2 ^ (e + 4))
end
section
/-- the words that stand whatever is called -/
def xt_tbl : List Cond := lw_tbl.filter (fun w => k2_isCode w || goodWord w)
theorem xt_of {w : Cond} (h : w ∈ lw_tbl) (g : (k2_isCode w || goodWord w) = true) : w ∈ xt_tbl := List.mem_filter.mpr ⟨h, g⟩
theorem xt_in {w : Cond} (h : w ∈ xt_tbl) : w ∈ lw_tbl := (List.mem_filter.mp h).1
theorem xt_u {C : String} {T : u_T} {N : Nat} (h : ∀ w ∈ u_ws C T N, w ∈ lw_tbl) : ∀ w ∈ u_ws C T N, w ∈ xt_tbl := by
  intro w hw
  refine xt_of (h w hw) ?_
  obtain ⟨k, -, rfl⟩ := List.mem_map.mp hw
  unfold u_lay
  split <;> rfl
/-! THE WALKER'S OWN WORDS. xs: the machine, in a method whose names and room are given, with the world ws, at pc, with locals L and operands st, comes to where X asks. -/
abbrev xz_X : Type := Program × Launch × Env × State × MethodId × Array Value × List Frame × Method × Code × va_G × (Nat → Prop) × (State → Prop) × List (ClassId × FieldType)
/-- what holds of X all along the method -/
def xv (X : xz_X) (cA : ClassId) (own : String) (cc : ByteArray) (nL : Nat) (ret : Option FieldType) : Prop := match X with
  | (p, l, _, s, m, args, _, meth, c, D, A, _, ty2) => CallFix p m c cc nL s args xt_tbl own ∧ va_K D vwCl ((cA, .int) :: ty2) s ∧ (∀ q : Nat, s.heap.size ≤ q → A q) ∧ meth.locks = false ∧ meth.sig.returnType = ret ∧ l.flags = flags0 ∧ ∀ (q : Nat) (cell : Cell), A q → s.heap[q]? = some cell → cell.vm.isStatics = false
def xs (X : xz_X) (cA : ClassId) (own : String) (cc : ByteArray) (nL : Nat) (ret : Option FieldType) (R : Room) (ws : va_W) (k n pc : Nat) (L : List (Nat × Value)) (st : List Value) : Prop :=
  xv X cA own cc nL ret → match X with
  | (p, l, e, s, m, args, below, meth, c, D, A, Q, _) => ∀ (H : Heap) (locs : List Loc) (ls : Array Slot), va_P D vwCl ws H → va_D A ws → va_S A s.heap H locs → lv_has ls nL L → W p l e R s m args below meth c H locs k n Q (F0 m pc ls st)
/-- the method's end: it returns r, the world is w1 -/
def xq (D : va_G) (cA : ClassId) (A : Nat → Prop) (r : Option Value) (w1 : va_W) : Array Value → State → Outcome → State → Prop := fun _ st oc t => (oc = .returned r ∧ va_P D vwCl w1 t.heap ∧ va_K D vwCl [(cA, .int)] t ∧ va_D A w1) ∧ va_F A st t
def xfin (X : xz_X) (cA : ClassId) (k n : Nat) (r : Option Value) (w1 : va_W) : Prop := match X with
  | (_, _, _, s, _, args, below, _, _, D, A, Q, _) => Q = MQ below (xq D cA A r w1) args s k n A
/-- a contract: from the world ws and the arguments av it returns r, and the world is w1 -/
def xct (cA : ClassId) (y : MethodName) (cc : ByteArray) (nL : Nat) (ret : Option FieldType) (R : Room) (av : List Value) (ws : va_W) (r : Option Value) (w1 : va_W) : Prop :=
  ∀ (l : Launch) (D : va_G) (sz : Nat), l.flags = flags0 → Met l y (.code y cc nL ret :: xt_tbl) R (va_Pc av (fun U => U.heap.size = sz ∧ va_P D vwCl ws U.heap ∧ va_K D vwCl [(cA, .int)] U ∧ va_D (fun _ => True) ws)) (xq D cA (va_A ws sz) r w1) R.cells R.slots (va_A ws sz)
/-- cells of a world are no cells of statics -/
theorem xa_ns {D : va_G} {ws : va_W} {H : Heap} (hP : va_P D vwCl ws H) : ∀ (q : Nat) (cell : Cell), va_A ws H.size q → H[q]? = some cell → cell.vm.isStatics = false := by
  intro q cell hA hc
  rcases hA with ⟨k, e, h⟩ | h
  · have h1 := hP k _ h
    cases e with
    | inl x =>
      have h2 : H[q]? = some (vp_cell x.1 x.2) := h1
      rw [hc] at h2
      cases h2
      unfold vp_cell
      split <;> rfl
    | inr o =>
      obtain ⟨r, -, cell', g1, g2, g3, -⟩ := h1
      rw [hc] at g1
      cases g1
      rw [g3]
      rfl
  · rw [Array.getElem?_eq_none h] at hc
    cases hc
theorem xct_of {cA : ClassId} {y : MethodName} {own : String} {cc : ByteArray} {nL : Nat} {ret : Option FieldType} {R : Room} {av : List Value} {ws : va_W} {r : Option Value} {w1 : va_W}
    (hy : plainName y.cls = true) (hown : y.cls = own) (hn : (lg_sl av).length ≤ nL) (body : ∀ X : xz_X, xfin X cA R.cells R.slots r w1 → xs X cA own cc nL ret R ws 0 0 0 (lv_args 0 av) []) : xct cA y cc nL ret R av ws r w1 := by
  intro l D sz hfl
  refine Met.ofW (cc := cc) (maxL := nL) (ret := ret) hy rfl ?_
  intro p e s m args below meth c s₁ B hml hv
  obtain ⟨rfl, hsz, hP, hK, hD0⟩ := hv
  have hts := atoms_spec (ws := .code y cc nL ret :: xt_tbl) B.pre
  have hfc : s.vm.findClass own = some m.cls := by rw [← hown]; exact findClass_of_methodNamed B.named
  subst hsz
  have hD := hD0.self (sz := s.heap.size)
  have hl := lv_entry av (n := nL) hn
  rw [lg_entry_eq]
  exact body (p, l, e, s, m, av.toArray, below, meth, c, D, va_A ws s.heap.size, MQ below (xq D cA (va_A ws s.heap.size) r w1) av.toArray s R.cells R.slots (va_A ws s.heap.size), []) rfl
    ⟨⟨B.exec, B.bytes, hml, hfc, fun w hw => hts w (List.mem_cons_of_mem _ hw)⟩, hK, fun q h => Or.inr h, B.notSynchronized, B.returns, hfl, xa_ns hP⟩ s.heap [] _ hP hD va_S.rf hl
section XS
variable {X : xz_X} {cA : ClassId} {own : String} {cc : ByteArray} {nL : Nat} {ret : Option FieldType} {R : Room} {ws : va_W} {k n pc : Nat} {L : List (Nat × Value)} {st : List Value}
/-- an instruction that changes the operands alone -/
theorem xs_op {pc' : Nat} {st' : List Value} (h : ∀ {p : Program} {l : Launch} {e : Env} {s : State} {m : MethodId} {args : Array Value} {below : List Frame} {meth : Method} {c : Code} {Q : State → Prop} {H : Heap} {locs : List Loc} {ls : Array Slot}, CallFix p m c cc nL s args xt_tbl own → lv_has ls nL L → W p l e R s m args below meth c H locs k n Q (F0 m pc' ls st') → W p l e R s m args below meth c H locs k n Q (F0 m pc ls st))
    (kk : xs X cA own cc nL ret R ws k n pc' L st') : xs X cA own cc nL ret R ws k n pc L st := by
  obtain ⟨p, l, e, s, m, args, below, meth, c, D, A, Q, ty2⟩ := X
  intro v H locs ls hP hD hS hl
  exact h v.1 hl (kk v H locs ls hP hD hS hl)
/-- an instruction that changes the locals -/
theorem xs_lo {pc' : Nat} {L' : List (Nat × Value)} {st' : List Value} (h : ∀ {p : Program} {l : Launch} {e : Env} {s : State} {m : MethodId} {args : Array Value} {below : List Frame} {meth : Method} {c : Code} {Q : State → Prop} {H : Heap} {locs : List Loc} {ls : Array Slot}, CallFix p m c cc nL s args xt_tbl own → lv_has ls nL L → (∀ ls' : Array Slot, lv_has ls' nL L' → W p l e R s m args below meth c H locs k n Q (F0 m pc' ls' st')) → W p l e R s m args below meth c H locs k n Q (F0 m pc ls st))
    (kk : xs X cA own cc nL ret R ws k n pc' L' st') : xs X cA own cc nL ret R ws k n pc L st := by
  obtain ⟨p, l, e, s, m, args, below, meth, c, D, A, Q, ty2⟩ := X
  intro v H locs ls hP hD hS hl
  exact h v.1 hl (fun ls' hl' => kk v H locs ls' hP hD hS hl')
/-- a branch -/
theorem xs_br {P : Prop} {pt pf : Nat} {st' : List Value} (h : ∀ {p : Program} {l : Launch} {e : Env} {s : State} {m : MethodId} {args : Array Value} {below : List Frame} {meth : Method} {c : Code} {Q : State → Prop} {H : Heap} {locs : List Loc} {ls : Array Slot}, CallFix p m c cc nL s args xt_tbl own → (P → W p l e R s m args below meth c H locs k n Q (F0 m pt ls st')) → (¬ P → W p l e R s m args below meth c H locs k n Q (F0 m pf ls st')) → W p l e R s m args below meth c H locs k n Q (F0 m pc ls st))
    (kt : P → xs X cA own cc nL ret R ws k n pt L st') (kf : ¬ P → xs X cA own cc nL ret R ws k n pf L st') : xs X cA own cc nL ret R ws k n pc L st := by
  obtain ⟨p, l, e, s, m, args, below, meth, c, D, A, Q, ty2⟩ := X
  intro v H locs ls hP hD hS hl
  exact h v.1 (fun q => kt q v H locs ls hP hD hS hl) (fun q => kf q v H locs ls hP hD hS hl)
-- constants
theorem xs_iconst {z : Int} {v : Int32} (d : decode cc pc = .ok (.iconst z, 1)) (hv : Int32.ofInt z = v) (kk : xs X cA own cc nL ret R ws k n (pc + 1) L (.int v :: st)) : xs X cA own cc nL ret R ws k n pc L st :=
  xs_op (fun S _ K => lv_iconst S.1 S.2.1 d hv K) kk
theorem xs_bipush {z : Int} {v : Int32} (d : decode cc pc = .ok (.bipush z, 2)) (hv : (Int8.ofInt z).toInt32 = v) (kk : xs X cA own cc nL ret R ws k n (pc + 2) L (.int v :: st)) : xs X cA own cc nL ret R ws k n pc L st :=
  xs_op (fun S _ K => lv_bipush S.1 S.2.1 d hv K) kk
theorem xs_sipush {z : Int} {v : Int32} (d : decode cc pc = .ok (.sipush z, 3)) (hv : (Int16.ofInt z).toInt32 = v) (kk : xs X cA own cc nL ret R ws k n (pc + 3) L (.int v :: st)) : xs X cA own cc nL ret R ws k n pc L st :=
  xs_op (fun S _ K => lv_sipush S.1 S.2.1 d hv K) kk
theorem xs_ldc {ix : Nat} {v : Int32} (d : decode cc pc = .ok (.ldc ix, 2)) (hw : Jvm.Cond.constant own ix v ∈ xt_tbl) (kk : xs X cA own cc nL ret R ws k n (pc + 2) L (.int v :: st)) : xs X cA own cc nL ret R ws k n pc L st :=
  xs_op (fun S _ K => lv_ldc S.1 S.2.1 S.2.2.2.1 (S.2.2.2.2 _ hw) d K) kk
theorem xs_ldc2 {ix : Nat} {v : Int64} (d : decode cc pc = .ok (.ldc2_w ix, 3)) (hw : Jvm.Cond.constantLong own ix v ∈ xt_tbl) (kk : xs X cA own cc nL ret R ws k n (pc + 3) L (.long v :: st)) : xs X cA own cc nL ret R ws k n pc L st :=
  xs_op (fun S _ K => lv_ldc2 S.1 S.2.1 S.2.2.2.1 (S.2.2.2.2 _ hw) d K) kk
-- locals
theorem xs_iload_n {i : Fin 4} {x : Int32} (j : Nat) (d : decode cc pc = .ok (.iload_n i, 1)) (h : L[j]? = some ((i : Nat), .int x)) (kk : xs X cA own cc nL ret R ws k n (pc + 1) L (.int x :: st)) : xs X cA own cc nL ret R ws k n pc L st :=
  xs_op (fun S hl K => lv_iload_n S.1 S.2.1 d rfl (lv_at hl j h) K) kk
theorem xs_iload {i : Nat} {x : Int32} (j : Nat) (d : decode cc pc = .ok (.iload i, 2)) (h : L[j]? = some (i, .int x)) (kk : xs X cA own cc nL ret R ws k n (pc + 2) L (.int x :: st)) : xs X cA own cc nL ret R ws k n pc L st :=
  xs_op (fun S hl K => lv_iload S.1 S.2.1 d (lv_at hl j h) K) kk
theorem xs_aload_n {i : Fin 4} {x : Nat} (j : Nat) (d : decode cc pc = .ok (.aload_n i, 1)) (h : L[j]? = some ((i : Nat), .ref x)) (kk : xs X cA own cc nL ret R ws k n (pc + 1) L (.ref x :: st)) : xs X cA own cc nL ret R ws k n pc L st :=
  xs_op (fun S hl K => lv_aload_n S.1 S.2.1 d rfl (lv_at hl j h) K) kk
theorem xs_aload {i : Nat} {x : Nat} (j : Nat) (d : decode cc pc = .ok (.aload i, 2)) (h : L[j]? = some (i, .ref x)) (kk : xs X cA own cc nL ret R ws k n (pc + 2) L (.ref x :: st)) : xs X cA own cc nL ret R ws k n pc L st :=
  xs_op (fun S hl K => lv_aload S.1 S.2.1 d (lv_at hl j h) K) kk
theorem xs_istore_n {i : Fin 4} {x : Int32} {L' : List (Nat × Value)} (d : decode cc pc = .ok (.istore_n i, 1)) (hn : (i : Nat) < nL) (hl : ((i : Nat), Value.int x) :: L.filter (fun q => !(q.1 == (i : Nat)) && !(q.1 + 1 == (i : Nat) && q.2.category == 2)) = L') (kk : xs X cA own cc nL ret R ws k n (pc + 1) L' st) : xs X cA own cc nL ret R ws k n pc L (.int x :: st) :=
  xs_lo (fun S h K => lv_istore_n S.1 S.2.1 d rfl h hn hl K) kk
theorem xs_istore {i : Nat} {x : Int32} {L' : List (Nat × Value)} (d : decode cc pc = .ok (.istore i, 2)) (hn : i < nL) (hl : (i, Value.int x) :: L.filter (fun q => !(q.1 == i) && !(q.1 + 1 == i && q.2.category == 2)) = L') (kk : xs X cA own cc nL ret R ws k n (pc + 2) L' st) : xs X cA own cc nL ret R ws k n pc L (.int x :: st) :=
  xs_lo (fun S h K => lv_istore S.1 S.2.1 d h hn hl K) kk
theorem xs_iinc {i : Nat} {z : Int} {x v : Int32} {L' : List (Nat × Value)} (j : Nat) (d : decode cc pc = .ok (.iinc i z, 3)) (hj : L[j]? = some (i, .int x)) (hv : x + Int32.ofInt z = v) (hn : i < nL) (hl : (i, Value.int v) :: L.filter (fun q => !(q.1 == i) && !(q.1 + 1 == i && q.2.category == 2)) = L') (kk : xs X cA own cc nL ret R ws k n (pc + 3) L' st) : xs X cA own cc nL ret R ws k n pc L st :=
  xs_lo (fun S h K => lv_iinc S.1 S.2.1 d h hj hv hn hl K) kk
-- operands
theorem xs_dup {va : Value} (d : decode cc pc = .ok (.dup, 1)) (hc : va.category = 1) (kk : xs X cA own cc nL ret R ws k n (pc + 1) L (va :: va :: st)) : xs X cA own cc nL ret R ws k n pc L (va :: st) :=
  xs_op (fun S _ K => lv_dup S.1 S.2.1 d hc K) kk
theorem xs_iadd {x y : Int32} (d : decode cc pc = .ok (.iadd, 1)) (kk : xs X cA own cc nL ret R ws k n (pc + 1) L (.int (x + y) :: st)) : xs X cA own cc nL ret R ws k n pc L (.int y :: .int x :: st) :=
  xs_op (fun S _ K => lv_iadd S.1 S.2.1 d K) kk
theorem xs_isub {x y : Int32} (d : decode cc pc = .ok (.isub, 1)) (kk : xs X cA own cc nL ret R ws k n (pc + 1) L (.int (x - y) :: st)) : xs X cA own cc nL ret R ws k n pc L (.int y :: .int x :: st) :=
  xs_op (fun S _ K => lv_isub S.1 S.2.1 d K) kk
theorem xs_imul {x y : Int32} (d : decode cc pc = .ok (.imul, 1)) (kk : xs X cA own cc nL ret R ws k n (pc + 1) L (.int (x * y) :: st)) : xs X cA own cc nL ret R ws k n pc L (.int y :: .int x :: st) :=
  xs_op (fun S _ K => lv_imul S.1 S.2.1 d K) kk
theorem xs_iand {x y : Int32} (d : decode cc pc = .ok (.iand, 1)) (kk : xs X cA own cc nL ret R ws k n (pc + 1) L (.int (x &&& y) :: st)) : xs X cA own cc nL ret R ws k n pc L (.int y :: .int x :: st) :=
  xs_op (fun S _ K => lv_iand S.1 S.2.1 d K) kk
theorem xs_ixor {x y : Int32} (d : decode cc pc = .ok (.ixor, 1)) (kk : xs X cA own cc nL ret R ws k n (pc + 1) L (.int (x ^^^ y) :: st)) : xs X cA own cc nL ret R ws k n pc L (.int y :: .int x :: st) :=
  xs_op (fun S _ K => lv_ixor S.1 S.2.1 d K) kk
theorem xs_iushr {x y : Int32} (d : decode cc pc = .ok (.iushr, 1)) (kk : xs X cA own cc nL ret R ws k n (pc + 1) L (.int (x.toUInt32 >>> (y.toUInt32 &&& Int32.toUInt32 31)).toInt32 :: st)) : xs X cA own cc nL ret R ws k n pc L (.int y :: .int x :: st) :=
  xs_op (fun S _ K => lv_iushr S.1 S.2.1 d rfl K) kk
theorem xs_i2l {x : Int32} (d : decode cc pc = .ok (.i2l, 1)) (kk : xs X cA own cc nL ret R ws k n (pc + 1) L (.long x.toInt64 :: st)) : xs X cA own cc nL ret R ws k n pc L (.int x :: st) :=
  xs_op (fun S _ K => lv_i2l S.1 S.2.1 d rfl K) kk
-- jumps
theorem xs_goto {off : Int} {t : Nat} (d : decode cc pc = .ok (.goto off, 3)) (ht : (pc : Int) + off = (t : Int)) (kk : xs X cA own cc nL ret R ws k n t L st) : xs X cA own cc nL ret R ws k n pc L st :=
  xs_op (fun S _ K => lv_goto S.1 S.2.1 d ht K) kk
theorem xs_if_eq {x : Int32} {off : Int} {t : Nat} (d : decode cc pc = .ok (.ifCond .eq off, 3)) (ht : (pc : Int) + off = (t : Int)) (kt : x = 0 → xs X cA own cc nL ret R ws k n t L st) (kf : ¬ x = 0 → xs X cA own cc nL ret R ws k n (pc + 3) L st) : xs X cA own cc nL ret R ws k n pc L (.int x :: st) :=
  xs_br (fun S a b => lv_if_eq S.1 S.2.1 d ht a b) kt kf
theorem xs_if_ne {x : Int32} {off : Int} {t : Nat} (d : decode cc pc = .ok (.ifCond .ne off, 3)) (ht : (pc : Int) + off = (t : Int)) (kt : ¬ x = 0 → xs X cA own cc nL ret R ws k n t L st) (kf : x = 0 → xs X cA own cc nL ret R ws k n (pc + 3) L st) : xs X cA own cc nL ret R ws k n pc L (.int x :: st) :=
  xs_br (P := ¬ x = 0) (fun S a b => lv_if_ne S.1 S.2.1 d ht a (fun h => b (fun z => z h))) kt (fun h => kf (Classical.byContradiction h))
theorem xs_if_lt {x : Int32} {off : Int} {t : Nat} (d : decode cc pc = .ok (.ifCond .lt off, 3)) (ht : (pc : Int) + off = (t : Int)) (kt : x < 0 → xs X cA own cc nL ret R ws k n t L st) (kf : ¬ x < 0 → xs X cA own cc nL ret R ws k n (pc + 3) L st) : xs X cA own cc nL ret R ws k n pc L (.int x :: st) :=
  xs_br (fun S a b => lv_if_lt S.1 S.2.1 d ht a b) kt kf
theorem xs_if_ge {x : Int32} {off : Int} {t : Nat} (d : decode cc pc = .ok (.ifCond .ge off, 3)) (ht : (pc : Int) + off = (t : Int)) (kt : 0 ≤ x → xs X cA own cc nL ret R ws k n t L st) (kf : ¬ 0 ≤ x → xs X cA own cc nL ret R ws k n (pc + 3) L st) : xs X cA own cc nL ret R ws k n pc L (.int x :: st) :=
  xs_br (fun S a b => lv_if_ge S.1 S.2.1 d ht a b) kt kf
theorem xs_icmp_eq {x y : Int32} {off : Int} {t : Nat} (d : decode cc pc = .ok (.if_icmp .eq off, 3)) (ht : (pc : Int) + off = (t : Int)) (kt : x = y → xs X cA own cc nL ret R ws k n t L st) (kf : ¬ x = y → xs X cA own cc nL ret R ws k n (pc + 3) L st) : xs X cA own cc nL ret R ws k n pc L (.int y :: .int x :: st) :=
  xs_br (fun S a b => lv_icmp_eq S.1 S.2.1 d ht a b) kt kf
theorem xs_icmp_ne {x y : Int32} {off : Int} {t : Nat} (d : decode cc pc = .ok (.if_icmp .ne off, 3)) (ht : (pc : Int) + off = (t : Int)) (kt : ¬ x = y → xs X cA own cc nL ret R ws k n t L st) (kf : x = y → xs X cA own cc nL ret R ws k n (pc + 3) L st) : xs X cA own cc nL ret R ws k n pc L (.int y :: .int x :: st) :=
  xs_br (P := ¬ x = y) (fun S a b => lv_icmp_ne S.1 S.2.1 d ht a (fun h => b (fun z => z h))) kt (fun h => kf (Classical.byContradiction h))
theorem xs_icmp_lt {x y : Int32} {off : Int} {t : Nat} (d : decode cc pc = .ok (.if_icmp .lt off, 3)) (ht : (pc : Int) + off = (t : Int)) (kt : x < y → xs X cA own cc nL ret R ws k n t L st) (kf : ¬ x < y → xs X cA own cc nL ret R ws k n (pc + 3) L st) : xs X cA own cc nL ret R ws k n pc L (.int y :: .int x :: st) :=
  xs_br (fun S a b => lv_icmp_lt S.1 S.2.1 d ht a b) kt kf
theorem xs_icmp_ge {x y : Int32} {off : Int} {t : Nat} (d : decode cc pc = .ok (.if_icmp .ge off, 3)) (ht : (pc : Int) + off = (t : Int)) (kt : y ≤ x → xs X cA own cc nL ret R ws k n t L st) (kf : ¬ y ≤ x → xs X cA own cc nL ret R ws k n (pc + 3) L st) : xs X cA own cc nL ret R ws k n pc L (.int y :: .int x :: st) :=
  xs_br (fun S a b => lv_icmp_ge S.1 S.2.1 d ht a b) kt kf
theorem xs_icmp_gt {x y : Int32} {off : Int} {t : Nat} (d : decode cc pc = .ok (.if_icmp .gt off, 3)) (ht : (pc : Int) + off = (t : Int)) (kt : y < x → xs X cA own cc nL ret R ws k n t L st) (kf : ¬ y < x → xs X cA own cc nL ret R ws k n (pc + 3) L st) : xs X cA own cc nL ret R ws k n pc L (.int y :: .int x :: st) :=
  xs_br (fun S a b => lv_icmp_gt S.1 S.2.1 d ht a b) kt kf
theorem xs_icmp_le {x y : Int32} {off : Int} {t : Nat} (d : decode cc pc = .ok (.if_icmp .le off, 3)) (ht : (pc : Int) + off = (t : Int)) (kt : x ≤ y → xs X cA own cc nL ret R ws k n t L st) (kf : ¬ x ≤ y → xs X cA own cc nL ret R ws k n (pc + 3) L st) : xs X cA own cc nL ret R ws k n pc L (.int y :: .int x :: st) :=
  xs_br (fun S a b => lv_icmp_le S.1 S.2.1 d ht a b) kt kf
theorem xs_lookup {dflt : Int} {ps : Array (Int × Int)} {len : Nat} {x : Int32} {off : Int} {t : Nat} (d : decode cc pc = .ok (.lookupswitch dflt ps, len)) (hp : (ps.toList.zip (ps.toList.drop 1)).all (fun (a, next) => a.1 < next.1) = true) (ho : Op.lookupswitch.offset ps.toList dflt x.toInt = off) (ht : (pc : Int) + off = (t : Int)) (kk : xs X cA own cc nL ret R ws k n t L st) : xs X cA own cc nL ret R ws k n pc L (.int x :: st) :=
  xs_op (fun S _ K => lv_lookup S.1 S.2.1 d hp ho ht K) kk
-- fields and arrays
theorem xs_get {a ix ci N : Nat} {ref C : String} {T : u_T} {fs : List Value} {v : Value} (q0 f : Nat) (d : decode cc pc = .ok (.getfield ix, 3)) (he : ws[q0]? = some (a, .inr (ci, fs))) (hc : vwCl[ci]? = some (C, T, N)) (hin : ∀ w ∈ u_ws C T N, w ∈ xt_tbl) (hk : f < N) (hlink : Cond.fieldLink own ix ref (T f).2.1 (T f).2.2.1 ∈ xt_tbl) (hsame : (T f).1 = ref) (hv : fs[f]? = some v)
    (kk : xs X cA own cc nL ret R ws k n (pc + 3) L (v :: st)) : xs X cA own cc nL ret R ws k n pc L (.ref a :: st) := by
  obtain ⟨p, l, e, s, m, args, below, meth, c, D, A, Q, ty2⟩ := X
  intro v H locs ls hP hD hS hl
  obtain ⟨⟨hx, hb, hml, hown, hts⟩, hK, hA, hlk, hr, hfl, hns⟩ := id v
  exact va_get hx hb hts hin hown hK hP q0 he hc f hk (hts _ hlink) (fun x h => by rw [← hsame]; exact h) hv d (kk v H locs ls hP hD hS hl)
theorem xs_put {a ix ci N : Nat} {ref C : String} {T : u_T} {fs : List Value} {v : Value} {ty : FieldType} {w1 : va_W} (q0 f : Nat) (ty0 : Nat → FieldType) (d : decode cc pc = .ok (.putfield ix, 3)) (he : ws[q0]? = some (a, .inr (ci, fs))) (hc : vwCl[ci]? = some (C, T, N)) (hin : ∀ w ∈ u_ws C T N, w ∈ xt_tbl) (hty : ∀ k, k < N → parseFieldDescriptor (T k).2.2.1 = some (ty0 k)) (hnm : ∀ a, a < N → ∀ b, b < N → a ≠ b → (T a).2.1 ≠ (T b).2.1) (hk : f < N) (hlink : Cond.fieldLink own ix ref (T f).2.1 (T f).2.2.1 ∈ xt_tbl) (hsame : (T f).1 = ref)
    (hfin : (T f).2.2.2 = false) (hd : parseFieldDescriptor (T f).2.2.1 = some ty) (hn : narrow ty v = v) (hfit : fits ty v = true) (hl : f < fs.length) (hw : ws.set q0 (a, .inr (ci, fs.set f v)) = w1)
    (kk : xs X cA own cc nL ret R w1 k n (pc + 3) L st) : xs X cA own cc nL ret R ws k n pc L (v :: .ref a :: st) := by
  obtain ⟨p, l, e, s, m, args, below, meth, c, D, A, Q, ty2⟩ := X
  subst hw
  intro v H locs ls hP hD hS hll
  obtain ⟨⟨hx, hb, hml, hown, hts⟩, hK, hA, hlk, hr, hfl, hns⟩ := id v
  exact va_put hx hb hts hin ty0 hty hnm hown hK hP hD hS q0 he hc f hk (hts _ hlink) (fun x h => by rw [← hsame]; exact h) hfin hd hn hfit hl d (fun H1 locs1 hP1 hD1 hS1 => kk v H1 locs1 ls hP1 hD1 hS1 hll)
theorem xs_iald {a N : Nat} {f : Nat → Int32} {i x : Int32} (q0 : Nat) (d : decode cc pc = .ok (.iaload, 1)) (he : ws[q0]? = some (a, .inl (cA, N, .inl f))) (hi : vp_in i N) (hv : f i.toNatClampNeg = x)
    (kk : xs X cA own cc nL ret R ws k n (pc + 1) L (.int x :: st)) : xs X cA own cc nL ret R ws k n pc L (.int i :: .ref a :: st) := by
  obtain ⟨p, l, e, s, m, args, below, meth, c, D, A, Q, ty2⟩ := X
  subst hv
  intro v H locs ls hP hD hS hl
  obtain ⟨⟨hx, hb, hml, hown, hts⟩, hK, hA, hlk, hr, hfl, hns⟩ := id v
  exact va_iald hx hb hK hP q0 0 he rfl hi d (kk v H locs ls hP hD hS hl)
theorem xs_iast {a N : Nat} {f : Nat → Int32} {i x : Int32} {w1 : va_W} (q0 : Nat) (d : decode cc pc = .ok (.iastore, 1)) (he : ws[q0]? = some (a, .inl (cA, N, .inl f))) (hi : vp_in i N) (hw : ws.set q0 (a, .inl (cA, N, .inl (upd f i.toNatClampNeg x))) = w1)
    (kk : xs X cA own cc nL ret R w1 k n (pc + 1) L st) : xs X cA own cc nL ret R ws k n pc L (.int x :: .int i :: .ref a :: st) := by
  obtain ⟨p, l, e, s, m, args, below, meth, c, D, A, Q, ty2⟩ := X
  subst hw
  intro v H locs ls hP hD hS hl
  obtain ⟨⟨hx, hb, hml, hown, hts⟩, hK, hA, hlk, hr, hfl, hns⟩ := id v
  exact va_iast hx hb hK hP hD hS q0 0 he rfl hi d (fun H1 locs1 hP1 hD1 hS1 => kk v H1 locs1 ls hP1 hD1 hS1 hl)
-- the ends
theorem xs_iret {x y : Int32} {w1 : va_W} (hX : xfin X cA k n (some (.int y)) w1) (hr : ret = some .int) (d : decode cc pc = .ok (.ireturn, 1)) (hy : x = y) (hw : ws = w1) : xs X cA own cc nL ret R ws k n pc L [.int x] := by
  obtain ⟨p, l, e, s, m, args, below, meth, c, D, A, Q, ty2⟩ := X
  subst hy; subst hw
  intro v H locs ls hP hD hS hl
  obtain ⟨⟨hx, hb, hml, hown, hts⟩, hK, hA, hlk, hrr, hfl, hns⟩ := v
  cases (show Q = _ from hX)
  exact W.iret hx hb (hrr.trans hr) (fun t ht hW => ⟨⟨rfl, by rw [ht]; exact hP, va_K.moved hW.alike (hK.sub (tys' := [(cA, .int)]) [0] rfl), hD⟩, hS.F ht⟩) hS.2.2 d hlk
theorem xs_vret {w1 : va_W} (hX : xfin X cA k n none w1) (hr : ret = none) (d : decode cc pc = .ok (.return_, 1)) (hw : ws = w1) : xs X cA own cc nL ret R ws k n pc L [] := by
  obtain ⟨p, l, e, s, m, args, below, meth, c, D, A, Q, ty2⟩ := X
  subst hw
  intro v H locs ls hP hD hS hl
  obtain ⟨⟨hx, hb, hml, hown, hts⟩, hK, hA, hlk, hrr, hfl, hns⟩ := v
  cases (show Q = _ from hX)
  exact W.vret hx hb (hrr.trans hr) (fun t ht hW => ⟨⟨rfl, by rw [ht]; exact hP, va_K.moved hW.alike (hK.sub (tys' := [(cA, .int)]) [0] rfl), hD⟩, hS.F ht⟩) hS.2.2 d hlk
theorem xs_lret {x y : Int64} {w1 : va_W} (hX : xfin X cA k n (some (.long y)) w1) (hr : ret = some .long) (d : decode cc pc = .ok (.lreturn, 1)) (hy : x = y) (hw : ws = w1) : xs X cA own cc nL ret R ws k n pc L [.long x] := by
  obtain ⟨p, l, e, s, m, args, below, meth, c, D, A, Q, ty2⟩ := X
  subst hy; subst hw
  intro v H locs ls hP hD hS hl
  obtain ⟨⟨hx, hb, hml, hown, hts⟩, hK, hA, hlk, hrr, hfl, hns⟩ := v
  cases (show Q = _ from hX)
  exact W.lret hx hb (hrr.trans hr) (fun t ht hW => ⟨⟨rfl, by rw [ht]; exact hP, va_K.moved hW.alike (hK.sub (tys' := [(cA, .int)]) [0] rfl), hD⟩, hS.F ht⟩) hS.2.2 d hlk
end XS
end
section
theorem zs_clamp (a : zS) : (zs a).toNatClampNeg = a.val := nI_clamp (Nat.lt_trans a.isLt (by decide))
theorem zp_clamp (a : zP) : (zp a).toNatClampNeg = a.val := nI_clamp (Nat.lt_trans a.isLt (by decide))
theorem zs_in (a : zS) : vp_in (zs a) 2002 := vp_in_nI a.isLt (by decide)
theorem zp_in (a : zP) : vp_in (zp a) 4096 := vp_in_nI a.isLt (by decide)
theorem zs_eq {a b : zS} : zs a = zs b ↔ a = b := ⟨fun h => Fin.ext ((nI_eq (Nat.lt_trans a.isLt (by decide)) (Nat.lt_trans b.isLt (by decide))).mp h), fun h => by rw [h]⟩
theorem zp_eq {a b : zP} : zp a = zp b ↔ a = b := ⟨fun h => Fin.ext ((nI_eq (Nat.lt_trans a.isLt (by decide)) (Nat.lt_trans b.isLt (by decide))).mp h), fun h => by rw [h]⟩
theorem zs_0 {a : zS} : zs a = 0 ↔ a = 0 := zs_eq (a := a) (b := 0)
theorem zb_0 {b : Bool} : zb b = 0 ↔ b = false := by cases b <;> decide
theorem up_zs (s : zT) (r i : Nat) (v : zS) : upd (fun k => zs (s.1 r k)) i (zs v) = fun k => zs (zup (s.1 r) i v k) := by
  funext k
  unfold upd zup
  by_cases h : k = i
  · rw [if_pos h, if_pos h]
  · rw [if_neg h, if_neg h]
theorem up_zi (s : zT) (r i : Nat) (v : Int32) : upd (s.2 r) i v = zup (s.2 r) i v := rfl
theorem i32_m1 (x : Int32) : x + Int32.ofInt (-1) = x - 1 := by rw [Int32.sub_eq_add_neg]; rfl
theorem cnt_le {C : Int32} {i : Nat} (h : C.toNatClampNeg ≤ i) (hi : i < 2 ^ 31) : C ≤ nI i := by
  rw [Int32.le_iff_toInt_le, nI_toInt hi]
  have : C.toNatClampNeg = C.toInt.toNat := rfl
  omega
theorem cnt_lt31 (C : Int32) : C.toNatClampNeg < 2 ^ 31 := by
  have : C.toNatClampNeg = C.toInt.toNat := rfl
  have := Int32.toInt_lt C
  omega
theorem cnt_nle {C : Int32} {i : Nat} (h : i < C.toNatClampNeg) : ¬ C ≤ nI i := by
  have h31 := cnt_lt31 C
  rw [Int32.le_iff_toInt_le, nI_toInt (by omega)]
  have : C.toNatClampNeg = C.toInt.toNat := rfl
  omega
theorem kn_le {m i : Nat} (h : m ≤ i) (hi : i < 2 ^ 31) : nI m ≤ nI i := (nI_leI (by omega) hi).mpr h
theorem kn_nle {m i : Nat} (h : i < m) (hm : m < 2 ^ 31) : ¬ nI m ≤ nI i := fun q => by
  have := (nI_leI hm (by omega)).mp q
  omega
theorem zp_succ (p : zP) : zp p + 1 = nI (p.val + 1) := nI_1 p.val
theorem zp_of {i : Nat} (h : i < 4096) : zp (Fin.ofNat 4096 i) = nI i := by
  show nI (i % 4096) = nI i
  rw [Nat.mod_eq_of_lt h]
theorem rok_nI {s : zT} (hr : rok s) : ∃ r : Nat, 1 ≤ r ∧ r ≤ 4096 ∧ s.2 4 3 = nI r := by
  obtain ⟨e, he, hs⟩ := hr
  exact ⟨2 ^ (e + 4), Nat.one_le_two_pow, Nat.le_trans (Nat.pow_le_pow_right (by decide) (show e + 4 ≤ 12 by omega)) (by decide), hs⟩
theorem rok_le {s : zT} (h : rok s) : (s.2 4 3).toNatClampNeg ≤ 4096 := by
  obtain ⟨r, -, h2, e⟩ := rok_nI h
  rw [e, nI_clamp (by omega)]
  exact h2
section XS2
variable {X : xz_X} {cA : ClassId} {own : String} {cc : ByteArray} {nL : Nat} {ret : Option FieldType} {R : Room} {ws : va_W} {k n pc : Nat} {L : List (Nat × Value)} {st : List Value}
theorem xs_sub {L' : List (Nat × Value)} (ks : List Nat) (h : lv_pick L ks = L') (kk : xs X cA own cc nL ret R ws k n pc L' st) : xs X cA own cc nL ret R ws k n pc L st := by
  obtain ⟨p, l, e, s, m, args, below, meth, c, D, A, Q, ty2⟩ := X
  intro v H locs ls hP hD hS hl
  exact kk v H locs ls hP hD hS (lv_sub hl ks h)
theorem xs_sif_eq {a : zS} {off : Int} {t : Nat} (d : decode cc pc = .ok (.ifCond .eq off, 3)) (ht : (pc : Int) + off = (t : Int)) (kt : a = 0 → xs X cA own cc nL ret R ws k n t L st) (kf : ¬ a = 0 → xs X cA own cc nL ret R ws k n (pc + 3) L st) : xs X cA own cc nL ret R ws k n pc L (.int (zs a) :: st) :=
  xs_if_eq d ht (fun h => kt (zs_0.mp h)) (fun h => kf (fun q => h (zs_0.mpr q)))
theorem xs_sif_ne {a : zS} {off : Int} {t : Nat} (d : decode cc pc = .ok (.ifCond .ne off, 3)) (ht : (pc : Int) + off = (t : Int)) (kt : ¬ a = 0 → xs X cA own cc nL ret R ws k n t L st) (kf : a = 0 → xs X cA own cc nL ret R ws k n (pc + 3) L st) : xs X cA own cc nL ret R ws k n pc L (.int (zs a) :: st) :=
  xs_if_ne d ht (fun h => kt (fun q => h (zs_0.mpr q))) (fun h => kf (zs_0.mp h))
theorem xs_bif_eq {b : Bool} {off : Int} {t : Nat} (d : decode cc pc = .ok (.ifCond .eq off, 3)) (ht : (pc : Int) + off = (t : Int)) (kt : b = false → xs X cA own cc nL ret R ws k n t L st) (kf : b = true → xs X cA own cc nL ret R ws k n (pc + 3) L st) : xs X cA own cc nL ret R ws k n pc L (.int (zb b) :: st) :=
  xs_if_eq d ht (fun h => kt (zb_0.mp h)) (fun h => kf (by cases b; exact absurd (zb_0.mpr rfl) h; rfl))
theorem xs_bif_ne {b : Bool} {off : Int} {t : Nat} (d : decode cc pc = .ok (.ifCond .ne off, 3)) (ht : (pc : Int) + off = (t : Int)) (kt : b = true → xs X cA own cc nL ret R ws k n t L st) (kf : b = false → xs X cA own cc nL ret R ws k n (pc + 3) L st) : xs X cA own cc nL ret R ws k n pc L (.int (zb b) :: st) :=
  xs_if_ne d ht (fun h => kt (by cases b; exact absurd (zb_0.mpr rfl) h; rfl)) (fun h => kf (zb_0.mp h))
theorem xs_scmp_eq {a b : zS} {off : Int} {t : Nat} (d : decode cc pc = .ok (.if_icmp .eq off, 3)) (ht : (pc : Int) + off = (t : Int)) (kt : a = b → xs X cA own cc nL ret R ws k n t L st) (kf : ¬ a = b → xs X cA own cc nL ret R ws k n (pc + 3) L st) : xs X cA own cc nL ret R ws k n pc L (.int (zs b) :: .int (zs a) :: st) :=
  xs_icmp_eq d ht (fun h => kt (zs_eq.mp h)) (fun h => kf (fun q => h (zs_eq.mpr q)))
theorem xs_scmp_ne {a b : zS} {off : Int} {t : Nat} (d : decode cc pc = .ok (.if_icmp .ne off, 3)) (ht : (pc : Int) + off = (t : Int)) (kt : ¬ a = b → xs X cA own cc nL ret R ws k n t L st) (kf : a = b → xs X cA own cc nL ret R ws k n (pc + 3) L st) : xs X cA own cc nL ret R ws k n pc L (.int (zs b) :: .int (zs a) :: st) :=
  xs_icmp_ne d ht (fun h => kt (fun q => h (zs_eq.mpr q))) (fun h => kf (zs_eq.mp h))
theorem xs_pcmp_ne {a b : zP} {off : Int} {t : Nat} (d : decode cc pc = .ok (.if_icmp .ne off, 3)) (ht : (pc : Int) + off = (t : Int)) (kt : ¬ a = b → xs X cA own cc nL ret R ws k n t L st) (kf : a = b → xs X cA own cc nL ret R ws k n (pc + 3) L st) : xs X cA own cc nL ret R ws k n pc L (.int (zp b) :: .int (zp a) :: st) :=
  xs_icmp_ne d ht (fun h => kt (fun q => h (zp_eq.mpr q))) (fun h => kf (zp_eq.mp h))
theorem xs_iinc_n {i j : Nat} {L' : List (Nat × Value)} (q : Nat) (d : decode cc pc = .ok (.iinc i 1, 3)) (hj : L[q]? = some (i, .int (nI j))) (hn : i < nL) (hl : (i, Value.int (nI (j + 1))) :: L.filter (fun q => !(q.1 == i) && !(q.1 + 1 == i && q.2.category == 2)) = L') (kk : xs X cA own cc nL ret R ws k n (pc + 3) L' st) : xs X cA own cc nL ret R ws k n pc L st :=
  xs_iinc q d hj (nI_1 j) hn hl kk
theorem xs_iinc_1 {i : Nat} {x : Int32} {L' : List (Nat × Value)} (q : Nat) (d : decode cc pc = .ok (.iinc i 1, 3)) (hj : L[q]? = some (i, .int x)) (hn : i < nL) (hl : (i, Value.int (x + 1)) :: L.filter (fun q => !(q.1 == i) && !(q.1 + 1 == i && q.2.category == 2)) = L') (kk : xs X cA own cc nL ret R ws k n (pc + 3) L' st) : xs X cA own cc nL ret R ws k n pc L st :=
  xs_iinc q d hj rfl hn hl kk
theorem xs_iinc_p {i : Nat} {x : Int32} {L' : List (Nat × Value)} (q : Nat) (d : decode cc pc = .ok (.iinc i (-1), 3)) (hj : L[q]? = some (i, .int x)) (hn : i < nL) (hl : (i, Value.int (x - 1)) :: L.filter (fun q => !(q.1 == i) && !(q.1 + 1 == i && q.2.category == 2)) = L') (kk : xs X cA own cc nL ret R ws k n (pc + 3) L' st) : xs X cA own cc nL ret R ws k n pc L st :=
  xs_iinc q d hj (i32_m1 x) hn hl kk
theorem xs_top {x y : Int32} (h : x = y) (kk : xs X cA own cc nL ret R ws k n pc L (.int y :: st)) : xs X cA own cc nL ret R ws k n pc L (.int x :: st) := h ▸ kk
theorem xs_zret {a b : Bool} {w1 : va_W} (hX : xfin X cA k n (some (.int (zb b))) w1) (hr : ret = some .boolean) (d : decode cc pc = .ok (.ireturn, 1)) (hy : a = b) (hw : ws = w1) : xs X cA own cc nL ret R ws k n pc L [.int (zb a)] := by
  obtain ⟨p, l, e, s, m, args, below, meth, c, D, A, Q, ty2⟩ := X
  subst hy; subst hw
  intro v H locs ls hP hD hS hl
  obtain ⟨⟨hx, hb, hml, hown, hts⟩, hK, hA, hlk, hrr, hfl, hns⟩ := v
  cases (show Q = _ from hX)
  exact W.zret hx hb (hrr.trans hr) (by cases a <;> decide) (fun t ht hW => ⟨⟨rfl, by rw [ht]; exact hP, va_K.moved hW.alike (hK.sub (tys' := [(cA, .int)]) [0] rfl), hD⟩, hS.F ht⟩) hS.2.2 d hlk
end XS2
/-! CALLS -/
theorem gl_all : GoodIn xt_tbl xt_tbl := by
  intro w hw
  refine ⟨hw, ?_⟩
  rcases Bool.or_eq_true_iff.mp (List.mem_filter.mp hw).2 with h2 | h2
  · cases w <;> first | (simp [k2_isCode] at h2; done) | exact Or.inl rfl
  · exact good_of_word h2
theorem gl_code {w : Cond} (h : w ∈ xt_tbl) : GoodIn xt_tbl (w :: xt_tbl) := by
  intro v hv
  rcases List.mem_cons.mp hv with rfl | hv
  · exact gl_all _ h
  · exact gl_all _ hv
def xw (own : String) (ix : Nat) (y : MethodName) (cc : ByteArray) (nL : Nat) (ret : Option FieldType) (a : Nat) : Prop :=
  Cond.code y cc nL ret ∈ xt_tbl ∧ Cond.initialized y.cls ∈ xt_tbl ∧ Cond.methodLink own ix y ∈ xt_tbl ∧ (y.cls ≠ "java/lang/invoke/MethodHandle" ∧ y.cls ≠ "java/lang/invoke/VarHandle" ∧ (parseMethodDescriptor y.desc).map (fun d => d.parameters.length) = some a)
def xwV (own : String) (ix : Nat) (y : MethodName) (cc : ByteArray) (nL : Nat) (ret : Option FieldType) (a : Nat) : Prop := xw own ix y cc nL ret a ∧ Cond.instanceMethod y ∈ xt_tbl ∧ Cond.selects y.cls y y ∈ xt_tbl
def xwS (own : String) (ix : Nat) (y : MethodName) (cc : ByteArray) (nL : Nat) (ret : Option FieldType) (a : Nat) : Prop := xw own ix y cc nL ret a ∧ Cond.static y ∈ xt_tbl
abbrev xroom (R' : Room) (nL' : Nat) (R : Room) : Prop := R'.frames + 1 ≤ R.frames ∧ 8 + (nL' + 11) + R'.locals ≤ R.locals
theorem xP_blind {av : List Value} {ws : va_W} {D : va_G} {cA : ClassId} {sz : Nat} : FrameBlind (va_Pc av (fun U => U.heap.size = sz ∧ va_P D vwCl ws U.heap ∧ va_K D vwCl [(cA, .int)] U ∧ va_D (fun _ => True) ws)) :=
  fun a U g mk q => by obtain ⟨q0, q1, qP, qK, qD⟩ := q; exact ⟨q0, q1, qP, va_K.moved (u := U) (U := U.calling g mk a) (Vm.Alike.refl U.vm) qK, qD⟩
section XC
variable {p : Program} {l : Launch} {e : Env} {R : Room} {s : State} {m : MethodId} {args : Array Value} {below : List Frame} {meth : Method} {c : Code} {H : Heap} {locs : List Loc} {cells slots : Nat} {Q : State → Prop}
variable {pc : Nat} {ls : Array Slot} {rest st0 : List Value} {a : Array Value} {A0 A1 : Nat → Prop} {H0 : Heap} {mc ms : Nat} {free : Addr → Prop} {D : va_G} {cA : ClassId} {r : Option Value} {w1 : va_W}
theorem xs_after (hr : va_Run p l e R s m args below meth c H locs cells slots mc ms (F0 m pc ls st0) rest (xq D cA A1 r w1 a) free) (hS : va_S A0 H0 H locs) (hA : ∀ q, q < H.size → A1 q → A0 q) (hf : ∀ q, free q → A0 q)
    (kk : ∀ (H1 : Heap) (locs1 : List Loc), va_P D vwCl w1 H1 → va_D A1 w1 → H.size ≤ H1.size → (∀ q : Nat, q < H.size → ¬ A1 q → H1[q]? = H[q]?) → va_S A0 H0 H1 locs1 → W p l e R s m args below meth c H1 locs1 (cells + mc) (slots + ms) Q (F0 m (pc + 3) ls (r.toList ++ rest))) : W p l e R s m args below meth c H locs cells slots Q (F0 m pc ls st0) := by
  intro T hT X
  obtain ⟨v, st₀, t, T', L, h0, X', hL, e1, e2, ⟨⟨hv, hp, hkk, hd⟩, hz, hk⟩, st⟩ := hr T hT X
  cases hv
  rw [h0] at hz hk
  obtain ⟨t2, a1, b1⟩ := kk T'.heap (locs ++ L) (by rw [e1]; exact hp) hd (by rw [e1]; exact hz) (fun q h1 h2 => by rw [e1]; exact hk q h1 h2)
    ⟨Nat.le_trans hS.1 (by rw [e1]; exact hz), fun q h1 h2 => by rw [e1, hk q (Nat.lt_of_lt_of_le h1 hS.1) (fun z => h2 (hA q (Nat.lt_of_lt_of_le h1 hS.1) z))]; exact hS.2.1 q h1 h2, fun q hq => by
      rcases List.mem_append.mp hq with h | h
      · exact hS.2.2 q h
      · exact hf _ (hL q h)⟩ T' rfl X'
  exact ⟨t2, st t2 a1, b1⟩
end XC
section XS3
variable {X : xz_X} {cA : ClassId} {own : String} {cc : ByteArray} {nL : Nat} {ret : Option FieldType} {R : Room} {ws : va_W} {k n pc : Nat} {L : List (Nat × Value)} {st st0 : List Value}
/-- a call of a method of an object, over the whole world -/
theorem xs_call {y : MethodName} {cc' : ByteArray} {nL' ix ci N b : Nat} {ret' : Option FieldType} {R' : Room} {As : List Value} {r : Option Value} {w1 : va_W} {T : u_T} {fs : List Value} (q0 : Nat) (hc : xct cA y cc' nL' ret' R' (.ref b :: As) ws r w1) (h0 : R'.cells = 0) (h1 : R'.slots = 0) (d : decode cc pc = .ok (.invokevirtual ix, 3)) (hw : xwV own ix y cc' nL' ret' As.length) (hR : xroom R' nL' R)
    (he : ws[q0]? = some (b, .inr (ci, fs))) (hci : vwCl[ci]? = some (y.cls, T, N)) (hs0 : st0 = As.reverse ++ .ref b :: st) (hst : (st.map fun v => v.category).sum ≤ 8) (hkn : k ≤ R.cells ∧ n ≤ R.slots)
    (kk : xs X cA own cc nL ret R w1 k n (pc + 3) L (r.toList ++ st)) : xs X cA own cc nL ret R ws k n pc L st0 := by
  obtain ⟨p, l, e, s, m, args, below, meth, c, D, A, Q, ty2⟩ := X
  intro v H locs ls hP hD hS hl
  obtain ⟨⟨hx, hb, hml, hown, hts⟩, hK, hA, hlk, hrr, hfl, hns⟩ := id v
  have hc := hc l D H.size hfl
  have hK1 : va_K D vwCl [(cA, .int)] s := hK.sub [0] rfl
  rw [h0, h1] at hc
  obtain ⟨⟨w1', w2, w3, w4⟩, w5, w6⟩ := hw
  have hF : ∀ q, va_A ws H.size q → A q := fun q h => by
    rcases h with ⟨j, e9, h⟩ | h
    · exact hD.2 j _ h
    · exact hA q (Nat.le_trans hS.1 h)
  refine xs_after (va_runV (C := y.cls) (As := As) (rest := st) ⟨hx, hb, hml, hown, hts⟩ hc ⟨callB_of As.length hts (gl_code w1') rfl h0 h1 (hts _ w2) (hts _ w3) w4 hR, hts _ w5, hts _ w6⟩ ⟨xP_blind, va_recv hK hP hci he, fun U hU hW => ⟨rfl, by rw [hU], by rw [hU]; exact hP, va_K.moved hW.alike hK1, hD.weaken (fun _ _ _ _ => trivial)⟩⟩ rfl rfl hl.1 hs0 (lv_room hst) d hkn) hS (fun q _ h => hF q h) hF (fun H1 locs1 hP1 hD1 _ _ hS1 => ?_)
  exact kk v H1 locs1 ls hP1 (hD1.weaken (fun _ q _ h => hF q.1 h)) hS1 hl
theorem xs_callS {y : MethodName} {cc' : ByteArray} {nL' ix : Nat} {ret' : Option FieldType} {R' : Room} {As : List Value} {r : Option Value} {w1 : va_W} (hc : xct cA y cc' nL' ret' R' As ws r w1) (h0 : R'.cells = 0) (h1 : R'.slots = 0) (d : decode cc pc = .ok (.invokestatic ix, 3)) (hw : xwS own ix y cc' nL' ret' As.length) (hR : xroom R' nL' R)
    (hs0 : st0 = As.reverse ++ st) (hst : (st.map fun v => v.category).sum ≤ 8) (hkn : k ≤ R.cells ∧ n ≤ R.slots)
    (kk : xs X cA own cc nL ret R w1 k n (pc + 3) L (r.toList ++ st)) : xs X cA own cc nL ret R ws k n pc L st0 := by
  obtain ⟨p, l, e, s, m, args, below, meth, c, D, A, Q, ty2⟩ := X
  intro v H locs ls hP hD hS hl
  obtain ⟨⟨hx, hb, hml, hown, hts⟩, hK, hA, hlk, hrr, hfl, hns⟩ := id v
  have hc := hc l D H.size hfl
  have hK1 : va_K D vwCl [(cA, .int)] s := hK.sub [0] rfl
  rw [h0, h1] at hc
  obtain ⟨⟨w1', w2, w3, w4⟩, w5⟩ := hw
  have hF : ∀ q, va_A ws H.size q → A q := fun q h => by
    rcases h with ⟨j, e9, h⟩ | h
    · exact hD.2 j _ h
    · exact hA q (Nat.le_trans hS.1 h)
  refine xs_after (va_runS (As := As) (rest := st) ⟨hx, hb, hml, hown, hts⟩ hc ⟨callB_of As.length hts (gl_code w1') rfl h0 h1 (hts _ w2) (hts _ w3) w4 hR, hts _ w5⟩ ⟨xP_blind, fun U hU hW => ⟨rfl, by rw [hU], by rw [hU]; exact hP, va_K.moved hW.alike hK1, hD.weaken (fun _ _ _ _ => trivial)⟩⟩ rfl rfl hl.1 hs0 (lv_room hst) d hkn) hS (fun q _ h => hF q h) hF (fun H1 locs1 hP1 hD1 _ _ hS1 => ?_)
  exact kk v H1 locs1 ls hP1 (hD1.weaken (fun _ q _ h => hF q.1 h)) hS1 hl
end XS3
end
section
/-! WHAT THE METHODS LEAVE ALONE -/
theorem u1_ne {s : zT} {r i q : Nat} {v : zS} (h : q ≠ r) : (u1 s r i v).1 q = s.1 q := by
  show (bif Nat.beq q r then zup (s.1 q) i v else s.1 q) = s.1 q
  cases hb : Nat.beq q r with
  | true => exact absurd (Nat.eq_of_beq_eq_true hb) h
  | false => rfl
theorem u1_eq {s : zT} {r i : Nat} {v : zS} : (u1 s r i v).1 r = zup (s.1 r) i v := by
  show (bif Nat.beq r r then zup (s.1 r) i v else s.1 r) = _
  rw [Nat.beq_refl]
  rfl
theorem u2_ne {s : zT} {r i q : Nat} {v : Int32} (h : q ≠ r) : (u2 s r i v).2 q = s.2 q := by
  show (bif Nat.beq q r then zup (s.2 q) i v else s.2 q) = s.2 q
  cases hb : Nat.beq q r with
  | true => exact absurd (Nat.eq_of_beq_eq_true hb) h
  | false => rfl
theorem u2_eq {s : zT} {r i : Nat} {v : Int32} : (u2 s r i v).2 r = zup (s.2 r) i v := by
  show (bif Nat.beq r r then zup (s.2 r) i v else s.2 r) = _
  rw [Nat.beq_refl]
  rfl
theorem zup_eq {α : Type} {f : Nat → α} {i : Nat} {v : α} : zup f i v i = v := if_pos rfl
theorem zup_ne {α : Type} {f : Nat → α} {i j : Nat} {v : α} (h : j ≠ i) : zup f i v j = f j := if_neg h
/-- only rows of the trees have changed -/
def tk (s s' : zT) : Prop := (∀ q, q ≠ 1 → s'.2 q = s.2 q) ∧ ∀ q, q ≠ 6 → q ≠ 7 → q ≠ 8 → s'.1 q = s.1 q
theorem tk_rf (s : zT) : tk s s := ⟨fun _ _ => rfl, fun _ _ _ _ => rfl⟩
theorem tk.tr {a b c : zT} (h : tk a b) (k : tk b c) : tk a c := ⟨fun q hq => (k.1 q hq).trans (h.1 q hq), fun q h6 h7 h8 => (k.2 q h6 h7 h8).trans (h.2 q h6 h7 h8)⟩
theorem tk_6 (s : zT) (i : Nat) (v : zS) : tk s (u1 s 6 i v) := ⟨fun _ _ => rfl, fun _ h _ _ => u1_ne h⟩
theorem tk_7 (s : zT) (i : Nat) (v : zS) : tk s (u1 s 7 i v) := ⟨fun _ _ => rfl, fun _ _ h _ => u1_ne h⟩
theorem tk_8 (s : zT) (i : Nat) (v : zS) : tk s (u1 s 8 i v) := ⟨fun _ _ => rfl, fun _ _ _ h => u1_ne h⟩
theorem tk_h (s : zT) (i : Nat) (v : Int32) : tk s (u2 s 1 i v) := ⟨fun _ h => u2_ne h, fun _ _ _ _ => rfl⟩
theorem tk_liftL (s : zT) (t : zS) : tk s (mTr_liftL s t).2 := by
  unfold mTr_liftL
  try dsimp only
  split
  · exact (tk_6 _ _ _).tr (tk_7 _ _ _)
  · exact (((tk_7 _ _ _).tr (tk_6 _ _ _)).tr (tk_6 _ _ _)).tr (tk_7 _ _ _)
theorem tk_liftR (s : zT) (t : zS) : tk s (mTr_liftR s t).2 := by
  unfold mTr_liftR
  try dsimp only
  split
  · exact (tk_7 _ _ _).tr (tk_6 _ _ _)
  · exact (((tk_6 _ _ _).tr (tk_7 _ _ _)).tr (tk_7 _ _ _)).tr (tk_6 _ _ _)
theorem tk_bal2 (q : zS × zT) : tk q.2 (mTr_bal2 q).2 := ((tk_h _ _ _).tr (tk_h _ _ _)).tr (tk_h _ _ _)
theorem tk_bal (s : zT) (t : zS) : tk s (mTr_bal s t).2 := by
  unfold mTr_bal
  try dsimp only
  split
  · split
    · exact (tk_liftR s t).tr (tk_bal2 _)
    · exact (tk_liftL s t).tr (tk_bal2 _)
  · split
    · split
      · exact (tk_liftR s t).tr (tk_bal2 _)
      · exact (tk_liftL s t).tr (tk_bal2 _)
    · exact tk_h _ _ _
theorem tk_climb (key : Int32) : ∀ (n : Nat) (t : zS) (s : zT), tk s (mTr_climb key n t s).2 := by
  intro n
  induction n with
  | zero => intro t s; exact tk_rf s
  | succ n ih =>
    intro t s
    rw [mTr_climb]
    try dsimp only
    split
    · exact ((tk_7 _ _ _).tr (tk_bal _ _)).tr (ih _ _)
    · exact ((tk_6 _ _ _).tr (tk_bal _ _)).tr (ih _ _)
theorem tk_desc (b : zS) : ∀ (n d : Nat) (a : zS) (s : zT), tk s (mTr_desc b n d a s).2 := by
  intro n
  induction n with
  | zero => intro d a s; exact tk_rf s
  | succ n ih =>
    intro d a s
    rw [mTr_desc]
    try dsimp only
    split
    · exact tk_rf s
    · split
      · exact tk_rf s
      · split
        · exact (tk_8 _ _ _).tr (ih _ _ _)
        · exact (tk_8 _ _ _).tr (ih _ _ _)
theorem desc_le (b : zS) : ∀ (n d : Nat) (a : zS) (s : zT), (mTr_desc b n d a s).1 ≤ d + n := by
  intro n
  induction n with
  | zero => intro d a s; exact Nat.le_refl _
  | succ n ih =>
    intro d a s
    rw [mTr_desc]
    try dsimp only
    split
    · exact Nat.le_add_right _ _
    · split
      · exact Nat.le_add_right _ _
      · split
        · exact Nat.le_trans (ih _ _ _) (by omega)
        · exact Nat.le_trans (ih _ _ _) (by omega)
theorem tk_with (s : zT) (root a : zS) : tk s (mTr_with s root a).2 := by
  unfold mTr_with
  try dsimp only
  exact ((((tk_6 _ _ _).tr (tk_7 _ _ _)).tr (tk_h _ _ _)).tr (tk_desc _ _ _ _ _)).tr (tk_climb _ _ _ _)
theorem tk_heir : ∀ (n d : Nat) (h : zS) (s : zT), tk s (mTr_heir n d h s).2.2 := by
  intro n
  induction n with
  | zero => intro d h s; exact tk_rf s
  | succ n ih =>
    intro d h s
    rw [mTr_heir]
    split
    · exact tk_rf s
    · exact (tk_8 _ _ _).tr (ih _ _ _)
theorem tk_without (s : zT) (root a : zS) : tk s (mTr_without s root a).2 := by
  unfold mTr_without
  try dsimp only
  split
  · exact (tk_desc _ _ _ _ _).tr (tk_climb _ _ _ _)
  · unfold mTr_wo1 mTr_wo2
    try dsimp only
    exact ((((tk_desc _ _ _ _ _).tr (tk_heir _ _ _ _)).tr (tk_8 _ _ _)).tr (tk_6 _ _ _)).tr (tk_climb _ _ _ _)
theorem Ln_append_2 (s : zT) (a : zS) : (mLn_append s a).2 = s.2 := by
  unfold mLn_append
  try dsimp only
  split <;> rfl
theorem Ln_unlink_2 (s : zT) (a : zS) : (mLn_unlink s a).2 = s.2 := by
  unfold mLn_unlink
  try dsimp only
  split <;> split <;> rfl
theorem Bi_append_2 (s : zT) (p : zP) (a : zS) : (mBi_append s p a).2 = s.2 := by
  unfold mBi_append
  try dsimp only
  split <;> rfl
theorem Bi_unlink_2 (s : zT) (p : zP) (a : zS) : (mBi_unlink s p a).2 = s.2 := by
  unfold mBi_unlink
  try dsimp only
  split <;> split <;> (try split) <;> rfl
theorem Bi_addL_2 (p : zP) : ∀ (n : Nat) (a : zS) (s : zT) (q : Nat), q ≠ 1 → (mBi_addL p n a s).2 q = s.2 q := by
  intro n
  induction n with
  | zero => intro a s q hq; rfl
  | succ n ih =>
    intro a s q hq
    rw [mBi_addL]
    try dsimp only
    rw [ih _ _ q hq]
    exact (tk_with s _ a).1 q hq
theorem Bi_add_2 (s : zT) (a : zS) (q : Nat) (hq : q ≠ 1) : (mBi_add s a).2 q = s.2 q := by
  unfold mBi_add
  try dsimp only
  split
  · split
    · rw [Bi_addL_2 _ _ _ _ q hq, Bi_append_2]
    · rw [Bi_append_2]
  · show (mTr_with _ _ _).2.2 q = _
    rw [(tk_with _ _ _).1 q hq, Bi_append_2]
theorem Bi_remove_2 (s : zT) (a : zS) (q : Nat) (hq : q ≠ 1) : (mBi_remove s a).2 q = s.2 q := by
  unfold mBi_remove
  try dsimp only
  split
  · rw [Bi_unlink_2]
  · split
    · show (mTr_without _ _ _).2.2 q = _
      rw [(tk_without _ _ _).1 q hq, Bi_unlink_2]
    · show (mTr_without _ _ _).2.2 q = _
      rw [(tk_without _ _ _).1 q hq, Bi_unlink_2]
theorem add_cnt (s : zT) (a : zS) : (mBi_add s a).2 4 2 = s.2 4 2 := by rw [Bi_add_2 s a 4 (by decide)]
theorem rok_of {s s' : zT} (h : s'.2 4 3 = s.2 4 3) (hr : rok s) : rok s' := by
  unfold rok
  rw [h]
  exact hr
theorem rok_add {s : zT} {a : zS} (hr : rok s) : rok (mBi_add s a) := rok_of (by rw [Bi_add_2 s a 4 (by decide)]) hr
theorem rok_join {s : zT} (hr : rok s) : rok (mLn_join s).2 := by
  refine rok_of (s := s) ?_ hr
  unfold mLn_join
  try dsimp only
  rw [u2_eq, zup_ne (by decide), Ln_append_2]
  rfl
theorem Ln_rankL_2 : ∀ (n i : Nat) (a : zS) (s : zT) (q : Nat), q ≠ 2 → (mLn_rankL n i a s).2 q = s.2 q := by
  intro n
  induction n with
  | zero => intro i a s q hq; rfl
  | succ n ih =>
    intro i a s q hq
    rw [mLn_rankL, ih _ _ _ q hq, u2_ne hq]
theorem Ln_rankL_1 : ∀ (n i : Nat) (a : zS) (s : zT), (mLn_rankL n i a s).1 = s.1 := by
  intro n
  induction n with
  | zero => intro i a s; rfl
  | succ n ih =>
    intro i a s
    rw [mLn_rankL, ih]
    rfl
theorem rok_rank {s : zT} (hr : rok s) : rok (mLn_rank s) := rok_of (by unfold mLn_rank; rw [Ln_rankL_2 _ _ _ _ 4 (by decide)]) hr
theorem rok_stretch {s : zT} {c : Int32} (hr : rok s) (h : mBi_tight s c = true) : rok (mBi_stretch s) := by
  obtain ⟨e, he, hs⟩ := hr
  have h3 : ¬ (4096 : Int32) ≤ s.2 4 3 := by
    unfold mBi_tight at h
    simp only [Bool.and_eq_true, Bool.not_eq_true', decide_eq_false_iff_not] at h
    exact h.2
  have h8 : e ≠ 8 := fun q => by
    subst q
    exact h3 (by rw [hs]; decide)
  refine ⟨e + 1, by omega, ?_⟩
  show s.2 4 3 * nI 2 = _
  rw [hs, pk_mul, Nat.pow_succ 2 (e + 4)]
theorem i32_tn (y : Int32) : y = nI y.toBitVec.toNat := by
  apply Int32.toBitVec_inj.mp
  show y.toBitVec = (Int32.ofNat y.toBitVec.toNat).toBitVec
  simp
theorem place_eq {s : zT} {key : Int32} (hr : rok s) : mBi_mix (mBi_code s key) &&& (s.2 4 3 - 1) = zp (mBi_place s key) := by
  obtain ⟨r, h1, h2, e⟩ := rok_nI hr
  have e1 : s.2 4 3 - 1 = nI (r - 1) := by
    rw [e]
    exact pk_sub (b := 1) h1
  have hle : (mBi_mix (mBi_code s key) &&& (s.2 4 3 - 1)).toBitVec.toNat ≤ r - 1 := by
    rw [e1, Int32.toBitVec_and, BitVec.toNat_and, pk_tn (by omega)]
    exact Nat.and_le_right
  have e3 := i32_tn (mBi_mix (mBi_code s key) &&& (s.2 4 3 - 1))
  show _ = nI ((mBi_mix (mBi_code s key) &&& (s.2 4 3 - 1)).toNatClampNeg % 4096)
  have e4 : (mBi_mix (mBi_code s key) &&& (s.2 4 3 - 1)).toNatClampNeg = (mBi_mix (mBi_code s key) &&& (s.2 4 3 - 1)).toBitVec.toNat := by
    conv => lhs; rw [e3]
    exact nI_clamp (by omega)
  rw [e4, Nat.mod_eq_of_lt (by omega)]
  exact e3
theorem Ln_leave_4 (s : zT) (a : zS) : (mLn_leave s a).2 4 3 = s.2 4 3 ∧ (mLn_leave s a).2 4 0 = s.2 4 0 ∧ (mLn_leave s a).2 4 1 = s.2 4 1 ∧ (mLn_leave s a).2 4 4 = s.2 4 4 ∧ ∀ q, q ≠ 4 → (mLn_leave s a).2 q = s.2 q := by
  unfold mLn_leave
  try dsimp only
  refine ⟨?_, ?_, ?_, ?_, fun q hq => ?_⟩
  · rw [u2_eq, zup_ne (by decide)]; show (mLn_unlink s a).2 4 3 = _; rw [Ln_unlink_2]
  · rw [u2_eq, zup_ne (by decide)]; show (mLn_unlink s a).2 4 0 = _; rw [Ln_unlink_2]
  · rw [u2_eq, zup_ne (by decide)]; show (mLn_unlink s a).2 4 1 = _; rw [Ln_unlink_2]
  · rw [u2_eq, zup_ne (by decide)]; show (mLn_unlink s a).2 4 4 = _; rw [Ln_unlink_2]
  · rw [u2_ne hq]; show (mLn_unlink s a).2 q = _; rw [Ln_unlink_2]
theorem rok_go {s : zT} {a : zS} (hr : rok s) : rok (mBM_go s a) := rok_of (s := s) (by unfold mBM_go; rw [(Ln_leave_4 _ a).1, Bi_remove_2 s a 4 (by decide)]) hr
theorem rok_come2 {s : zT} (hr : rok s) : rok (mBM_come2 s) := by
  unfold mBM_come2
  split
  · split
    · exact hr
    · exact rok_go hr
  · exact hr
theorem rok_again : ∀ (n : Nat) (a : zS) (s : zT), rok s → rok (mBM_againL n a s) := by
  intro n
  induction n with
  | zero => intro a s h; exact h
  | succ n ih => intro a s h; exact ih _ _ (rok_add h)
theorem rok_come {s : zT} {k x : Int32} (hr : rok s) : rok (mBM_come s k x) := by
  unfold mBM_come
  try dsimp only
  split
  · rename_i h
    exact rok_come2 (rok_again _ _ _ (rok_stretch (rok_add (rok_join hr)) h))
  · exact rok_come2 (rok_add (rok_join hr))
theorem rok_toEnd {s : zT} {a : zS} (hr : rok s) : rok (mLn_toEnd s a) := rok_of (s := s) (by unfold mLn_toEnd; rw [Ln_append_2, Ln_unlink_2]) hr
theorem rok_touch {s : zT} {a : zS} (hr : rok s) : rok (mBM_touch s a) := by
  unfold mBM_touch
  split
  · exact rok_toEnd hr
  · exact hr
theorem rok_change {s : zT} {a : zS} {x : Int32} (hr : rok s) : rok (mBM_change s a x) := rok_touch (s := u2 s 3 a x) hr
end
section
/-- the cells of a BinMap: ad: their addresses, s: what they hold -/
def wd (ad : Nat → Nat) (cA : ClassId) (s : zT) : va_W := [
  (ad 0, .inr (3, [.ref (ad 1), .ref (ad 2), .ref (ad 3), .int (s.2 4 0), .int (s.2 4 1)])),
  (ad 1, .inr (0, [.ref (ad 4), .ref (ad 5), .ref (ad 6), .ref (ad 7), .ref (ad 8), .int (s.2 4 3), .int (s.2 4 4)])),
  (ad 2, .inr (1, [.ref (ad 9), .ref (ad 10), .ref (ad 11), .int (zs (s.1 9 0)), .int (zs (s.1 9 1)), .int (s.2 4 2), .int (zs (s.1 9 2))])),
  (ad 3, .inl (cA, 2002, .inl (s.2 3))),
  (ad 4, .inr (2, [.ref (ad 12), .ref (ad 13), .ref (ad 14), .ref (ad 15), .ref (ad 16)])),
  (ad 5, .inl (cA, 2002, .inl (fun q => zs (s.1 2 q)))),
  (ad 6, .inl (cA, 2002, .inl (fun q => zs (s.1 3 q)))),
  (ad 7, .inl (cA, 4096, .inl (fun q => zs (s.1 4 q)))),
  (ad 8, .inl (cA, 4096, .inl (fun q => zs (s.1 5 q)))),
  (ad 9, .inl (cA, 2002, .inl (fun q => zs (s.1 0 q)))),
  (ad 10, .inl (cA, 2002, .inl (fun q => zs (s.1 1 q)))),
  (ad 11, .inl (cA, 2002, .inl (s.2 2))),
  (ad 12, .inl (cA, 2002, .inl (s.2 0))),
  (ad 13, .inl (cA, 2002, .inl (fun q => zs (s.1 6 q)))),
  (ad 14, .inl (cA, 2002, .inl (fun q => zs (s.1 7 q)))),
  (ad 15, .inl (cA, 2002, .inl (s.2 1))),
  (ad 16, .inl (cA, 40, .inl (fun q => zs (s.1 8 q))))]
theorem fl_BM_bins : Cond.fieldLink RX3 12 "BinMap" "bins" "LBinMap$Bins;" ∈ xt_tbl := xt_of (by decide +kernel) rfl
theorem g_BM_bins {X : xz_X} {cA : ClassId} {ad : Nat → Nat} {cc : ByteArray} {nL : Nat} {ret : Option FieldType} {R : Room} {s : zT} {k n pc : Nat} {L : List (Nat × Value)} {st : List Value} (d : decode cc pc = .ok (.getfield 12, 3)) (kk : xs X cA RX3 cc nL ret R (wd ad cA s) k n (pc + 3) L (.ref (ad 1) :: st)) : xs X cA RX3 cc nL ret R (wd ad cA s) k n pc L (.ref (ad 0) :: st) :=
  xs_get (C := RX3) (T := TX3) (N := 5) 0 0 d rfl rfl (xt_u iX3) (by decide) fl_BM_bins rfl rfl kk
theorem fl_BM_line : Cond.fieldLink RX3 19 "BinMap" "line" "LBinMap$Line;" ∈ xt_tbl := xt_of (by decide +kernel) rfl
theorem g_BM_line {X : xz_X} {cA : ClassId} {ad : Nat → Nat} {cc : ByteArray} {nL : Nat} {ret : Option FieldType} {R : Room} {s : zT} {k n pc : Nat} {L : List (Nat × Value)} {st : List Value} (d : decode cc pc = .ok (.getfield 19, 3)) (kk : xs X cA RX3 cc nL ret R (wd ad cA s) k n (pc + 3) L (.ref (ad 2) :: st)) : xs X cA RX3 cc nL ret R (wd ad cA s) k n pc L (.ref (ad 0) :: st) :=
  xs_get (C := RX3) (T := TX3) (N := 5) 0 1 d rfl rfl (xt_u iX3) (by decide) fl_BM_line rfl rfl kk
theorem fl_BM_numbers : Cond.fieldLink RX3 23 "BinMap" "numbers" "[I" ∈ xt_tbl := xt_of (by decide +kernel) rfl
theorem g_BM_numbers {X : xz_X} {cA : ClassId} {ad : Nat → Nat} {cc : ByteArray} {nL : Nat} {ret : Option FieldType} {R : Room} {s : zT} {k n pc : Nat} {L : List (Nat × Value)} {st : List Value} (d : decode cc pc = .ok (.getfield 23, 3)) (kk : xs X cA RX3 cc nL ret R (wd ad cA s) k n (pc + 3) L (.ref (ad 3) :: st)) : xs X cA RX3 cc nL ret R (wd ad cA s) k n pc L (.ref (ad 0) :: st) :=
  xs_get (C := RX3) (T := TX3) (N := 5) 0 2 d rfl rfl (xt_u iX3) (by decide) fl_BM_numbers rfl rfl kk
theorem fl_BM_mode : Cond.fieldLink RX3 27 "BinMap" "mode" "I" ∈ xt_tbl := xt_of (by decide +kernel) rfl
theorem g_BM_mode {X : xz_X} {cA : ClassId} {ad : Nat → Nat} {cc : ByteArray} {nL : Nat} {ret : Option FieldType} {R : Room} {s : zT} {k n pc : Nat} {L : List (Nat × Value)} {st : List Value} (d : decode cc pc = .ok (.getfield 27, 3)) (kk : xs X cA RX3 cc nL ret R (wd ad cA s) k n (pc + 3) L (.int (s.2 4 0) :: st)) : xs X cA RX3 cc nL ret R (wd ad cA s) k n pc L (.ref (ad 0) :: st) :=
  xs_get (C := RX3) (T := TX3) (N := 5) 0 3 d rfl rfl (xt_u iX3) (by decide) fl_BM_mode rfl rfl kk
theorem p_BM_mode {X : xz_X} {cA : ClassId} {ad : Nat → Nat} {cc : ByteArray} {nL : Nat} {ret : Option FieldType} {R : Room} {s : zT} {k n pc : Nat} {L : List (Nat × Value)} {st : List Value} {x : Int32} (d : decode cc pc = .ok (.putfield 27, 3)) (kk : xs X cA RX3 cc nL ret R (wd ad cA (u2 s 4 0 x)) k n (pc + 3) L st) : xs X cA RX3 cc nL ret R (wd ad cA s) k n pc L (.int x :: .ref (ad 0) :: st) :=
  xs_put (C := RX3) (T := TX3) (N := 5) (ty := .int) 0 3 tyX3 d rfl rfl (xt_u iX3) tyX3_ok nmX3 (by decide) fl_BM_mode rfl rfl (by decide +kernel) rfl rfl (Nat.le_of_ble_eq_true rfl) rfl kk
theorem fl_BM_most : Cond.fieldLink RX3 31 "BinMap" "most" "I" ∈ xt_tbl := xt_of (by decide +kernel) rfl
theorem g_BM_most {X : xz_X} {cA : ClassId} {ad : Nat → Nat} {cc : ByteArray} {nL : Nat} {ret : Option FieldType} {R : Room} {s : zT} {k n pc : Nat} {L : List (Nat × Value)} {st : List Value} (d : decode cc pc = .ok (.getfield 31, 3)) (kk : xs X cA RX3 cc nL ret R (wd ad cA s) k n (pc + 3) L (.int (s.2 4 1) :: st)) : xs X cA RX3 cc nL ret R (wd ad cA s) k n pc L (.ref (ad 0) :: st) :=
  xs_get (C := RX3) (T := TX3) (N := 5) 0 4 d rfl rfl (xt_u iX3) (by decide) fl_BM_most rfl rfl kk
theorem p_BM_most {X : xz_X} {cA : ClassId} {ad : Nat → Nat} {cc : ByteArray} {nL : Nat} {ret : Option FieldType} {R : Room} {s : zT} {k n pc : Nat} {L : List (Nat × Value)} {st : List Value} {x : Int32} (d : decode cc pc = .ok (.putfield 31, 3)) (kk : xs X cA RX3 cc nL ret R (wd ad cA (u2 s 4 1 x)) k n (pc + 3) L st) : xs X cA RX3 cc nL ret R (wd ad cA s) k n pc L (.int x :: .ref (ad 0) :: st) :=
  xs_put (C := RX3) (T := TX3) (N := 5) (ty := .int) 0 4 tyX3 d rfl rfl (xt_u iX3) tyX3_ok nmX3 (by decide) fl_BM_most rfl rfl (by decide +kernel) rfl rfl (Nat.le_of_ble_eq_true rfl) rfl kk
theorem fl_Ln_before : Cond.fieldLink RX1 9 "BinMap$Line" "before" "[I" ∈ xt_tbl := xt_of (by decide +kernel) rfl
theorem g_Ln_before {X : xz_X} {cA : ClassId} {ad : Nat → Nat} {cc : ByteArray} {nL : Nat} {ret : Option FieldType} {R : Room} {s : zT} {k n pc : Nat} {L : List (Nat × Value)} {st : List Value} (d : decode cc pc = .ok (.getfield 9, 3)) (kk : xs X cA RX1 cc nL ret R (wd ad cA s) k n (pc + 3) L (.ref (ad 9) :: st)) : xs X cA RX1 cc nL ret R (wd ad cA s) k n pc L (.ref (ad 2) :: st) :=
  xs_get (C := RX1) (T := TX1) (N := 7) 2 0 d rfl rfl (xt_u iX1) (by decide) fl_Ln_before rfl rfl kk
theorem fl_Ln_behind : Cond.fieldLink RX1 15 "BinMap$Line" "behind" "[I" ∈ xt_tbl := xt_of (by decide +kernel) rfl
theorem g_Ln_behind {X : xz_X} {cA : ClassId} {ad : Nat → Nat} {cc : ByteArray} {nL : Nat} {ret : Option FieldType} {R : Room} {s : zT} {k n pc : Nat} {L : List (Nat × Value)} {st : List Value} (d : decode cc pc = .ok (.getfield 15, 3)) (kk : xs X cA RX1 cc nL ret R (wd ad cA s) k n (pc + 3) L (.ref (ad 10) :: st)) : xs X cA RX1 cc nL ret R (wd ad cA s) k n pc L (.ref (ad 2) :: st) :=
  xs_get (C := RX1) (T := TX1) (N := 7) 2 1 d rfl rfl (xt_u iX1) (by decide) fl_Ln_behind rfl rfl kk
theorem fl_Ln_ranks : Cond.fieldLink RX1 18 "BinMap$Line" "ranks" "[I" ∈ xt_tbl := xt_of (by decide +kernel) rfl
theorem g_Ln_ranks {X : xz_X} {cA : ClassId} {ad : Nat → Nat} {cc : ByteArray} {nL : Nat} {ret : Option FieldType} {R : Room} {s : zT} {k n pc : Nat} {L : List (Nat × Value)} {st : List Value} (d : decode cc pc = .ok (.getfield 18, 3)) (kk : xs X cA RX1 cc nL ret R (wd ad cA s) k n (pc + 3) L (.ref (ad 11) :: st)) : xs X cA RX1 cc nL ret R (wd ad cA s) k n pc L (.ref (ad 2) :: st) :=
  xs_get (C := RX1) (T := TX1) (N := 7) 2 2 d rfl rfl (xt_u iX1) (by decide) fl_Ln_ranks rfl rfl kk
theorem fl_Ln_first : Cond.fieldLink RX1 21 "BinMap$Line" "first" "I" ∈ xt_tbl := xt_of (by decide +kernel) rfl
theorem g_Ln_first {X : xz_X} {cA : ClassId} {ad : Nat → Nat} {cc : ByteArray} {nL : Nat} {ret : Option FieldType} {R : Room} {s : zT} {k n pc : Nat} {L : List (Nat × Value)} {st : List Value} (d : decode cc pc = .ok (.getfield 21, 3)) (kk : xs X cA RX1 cc nL ret R (wd ad cA s) k n (pc + 3) L (.int (zs (s.1 9 0)) :: st)) : xs X cA RX1 cc nL ret R (wd ad cA s) k n pc L (.ref (ad 2) :: st) :=
  xs_get (C := RX1) (T := TX1) (N := 7) 2 3 d rfl rfl (xt_u iX1) (by decide) fl_Ln_first rfl rfl kk
theorem p_Ln_first {X : xz_X} {cA : ClassId} {ad : Nat → Nat} {cc : ByteArray} {nL : Nat} {ret : Option FieldType} {R : Room} {s : zT} {k n pc : Nat} {L : List (Nat × Value)} {st : List Value} {x : zS} (d : decode cc pc = .ok (.putfield 21, 3)) (kk : xs X cA RX1 cc nL ret R (wd ad cA (u1 s 9 0 x)) k n (pc + 3) L st) : xs X cA RX1 cc nL ret R (wd ad cA s) k n pc L (.int (zs x) :: .ref (ad 2) :: st) :=
  xs_put (C := RX1) (T := TX1) (N := 7) (ty := .int) 2 3 tyX1 d rfl rfl (xt_u iX1) tyX1_ok nmX1 (by decide) fl_Ln_first rfl rfl (by decide +kernel) rfl rfl (Nat.le_of_ble_eq_true rfl) rfl kk
theorem fl_Ln_last : Cond.fieldLink RX1 25 "BinMap$Line" "last" "I" ∈ xt_tbl := xt_of (by decide +kernel) rfl
theorem g_Ln_last {X : xz_X} {cA : ClassId} {ad : Nat → Nat} {cc : ByteArray} {nL : Nat} {ret : Option FieldType} {R : Room} {s : zT} {k n pc : Nat} {L : List (Nat × Value)} {st : List Value} (d : decode cc pc = .ok (.getfield 25, 3)) (kk : xs X cA RX1 cc nL ret R (wd ad cA s) k n (pc + 3) L (.int (zs (s.1 9 1)) :: st)) : xs X cA RX1 cc nL ret R (wd ad cA s) k n pc L (.ref (ad 2) :: st) :=
  xs_get (C := RX1) (T := TX1) (N := 7) 2 4 d rfl rfl (xt_u iX1) (by decide) fl_Ln_last rfl rfl kk
theorem p_Ln_last {X : xz_X} {cA : ClassId} {ad : Nat → Nat} {cc : ByteArray} {nL : Nat} {ret : Option FieldType} {R : Room} {s : zT} {k n pc : Nat} {L : List (Nat × Value)} {st : List Value} {x : zS} (d : decode cc pc = .ok (.putfield 25, 3)) (kk : xs X cA RX1 cc nL ret R (wd ad cA (u1 s 9 1 x)) k n (pc + 3) L st) : xs X cA RX1 cc nL ret R (wd ad cA s) k n pc L (.int (zs x) :: .ref (ad 2) :: st) :=
  xs_put (C := RX1) (T := TX1) (N := 7) (ty := .int) 2 4 tyX1 d rfl rfl (xt_u iX1) tyX1_ok nmX1 (by decide) fl_Ln_last rfl rfl (by decide +kernel) rfl rfl (Nat.le_of_ble_eq_true rfl) rfl kk
theorem fl_Ln_count : Cond.fieldLink RX1 28 "BinMap$Line" "count" "I" ∈ xt_tbl := xt_of (by decide +kernel) rfl
theorem g_Ln_count {X : xz_X} {cA : ClassId} {ad : Nat → Nat} {cc : ByteArray} {nL : Nat} {ret : Option FieldType} {R : Room} {s : zT} {k n pc : Nat} {L : List (Nat × Value)} {st : List Value} (d : decode cc pc = .ok (.getfield 28, 3)) (kk : xs X cA RX1 cc nL ret R (wd ad cA s) k n (pc + 3) L (.int (s.2 4 2) :: st)) : xs X cA RX1 cc nL ret R (wd ad cA s) k n pc L (.ref (ad 2) :: st) :=
  xs_get (C := RX1) (T := TX1) (N := 7) 2 5 d rfl rfl (xt_u iX1) (by decide) fl_Ln_count rfl rfl kk
theorem p_Ln_count {X : xz_X} {cA : ClassId} {ad : Nat → Nat} {cc : ByteArray} {nL : Nat} {ret : Option FieldType} {R : Room} {s : zT} {k n pc : Nat} {L : List (Nat × Value)} {st : List Value} {x : Int32} (d : decode cc pc = .ok (.putfield 28, 3)) (kk : xs X cA RX1 cc nL ret R (wd ad cA (u2 s 4 2 x)) k n (pc + 3) L st) : xs X cA RX1 cc nL ret R (wd ad cA s) k n pc L (.int x :: .ref (ad 2) :: st) :=
  xs_put (C := RX1) (T := TX1) (N := 7) (ty := .int) 2 5 tyX1 d rfl rfl (xt_u iX1) tyX1_ok nmX1 (by decide) fl_Ln_count rfl rfl (by decide +kernel) rfl rfl (Nat.le_of_ble_eq_true rfl) rfl kk
theorem fl_Ln_free : Cond.fieldLink RX1 31 "BinMap$Line" "free" "I" ∈ xt_tbl := xt_of (by decide +kernel) rfl
theorem g_Ln_free {X : xz_X} {cA : ClassId} {ad : Nat → Nat} {cc : ByteArray} {nL : Nat} {ret : Option FieldType} {R : Room} {s : zT} {k n pc : Nat} {L : List (Nat × Value)} {st : List Value} (d : decode cc pc = .ok (.getfield 31, 3)) (kk : xs X cA RX1 cc nL ret R (wd ad cA s) k n (pc + 3) L (.int (zs (s.1 9 2)) :: st)) : xs X cA RX1 cc nL ret R (wd ad cA s) k n pc L (.ref (ad 2) :: st) :=
  xs_get (C := RX1) (T := TX1) (N := 7) 2 6 d rfl rfl (xt_u iX1) (by decide) fl_Ln_free rfl rfl kk
theorem p_Ln_free {X : xz_X} {cA : ClassId} {ad : Nat → Nat} {cc : ByteArray} {nL : Nat} {ret : Option FieldType} {R : Room} {s : zT} {k n pc : Nat} {L : List (Nat × Value)} {st : List Value} {x : zS} (d : decode cc pc = .ok (.putfield 31, 3)) (kk : xs X cA RX1 cc nL ret R (wd ad cA (u1 s 9 2 x)) k n (pc + 3) L st) : xs X cA RX1 cc nL ret R (wd ad cA s) k n pc L (.int (zs x) :: .ref (ad 2) :: st) :=
  xs_put (C := RX1) (T := TX1) (N := 7) (ty := .int) 2 6 tyX1 d rfl rfl (xt_u iX1) tyX1_ok nmX1 (by decide) fl_Ln_free rfl rfl (by decide +kernel) rfl rfl (Nat.le_of_ble_eq_true rfl) rfl kk
theorem fl_Bi_trees : Cond.fieldLink RX0 12 "BinMap$Bins" "trees" "LBinMap$Trees;" ∈ xt_tbl := xt_of (by decide +kernel) rfl
theorem g_Bi_trees {X : xz_X} {cA : ClassId} {ad : Nat → Nat} {cc : ByteArray} {nL : Nat} {ret : Option FieldType} {R : Room} {s : zT} {k n pc : Nat} {L : List (Nat × Value)} {st : List Value} (d : decode cc pc = .ok (.getfield 12, 3)) (kk : xs X cA RX0 cc nL ret R (wd ad cA s) k n (pc + 3) L (.ref (ad 4) :: st)) : xs X cA RX0 cc nL ret R (wd ad cA s) k n pc L (.ref (ad 1) :: st) :=
  xs_get (C := RX0) (T := TX0) (N := 7) 1 0 d rfl rfl (xt_u iX0) (by decide) fl_Bi_trees rfl rfl kk
theorem fl_Bi_next : Cond.fieldLink RX0 18 "BinMap$Bins" "next" "[I" ∈ xt_tbl := xt_of (by decide +kernel) rfl
theorem g_Bi_next {X : xz_X} {cA : ClassId} {ad : Nat → Nat} {cc : ByteArray} {nL : Nat} {ret : Option FieldType} {R : Room} {s : zT} {k n pc : Nat} {L : List (Nat × Value)} {st : List Value} (d : decode cc pc = .ok (.getfield 18, 3)) (kk : xs X cA RX0 cc nL ret R (wd ad cA s) k n (pc + 3) L (.ref (ad 5) :: st)) : xs X cA RX0 cc nL ret R (wd ad cA s) k n pc L (.ref (ad 1) :: st) :=
  xs_get (C := RX0) (T := TX0) (N := 7) 1 1 d rfl rfl (xt_u iX0) (by decide) fl_Bi_next rfl rfl kk
theorem fl_Bi_previous : Cond.fieldLink RX0 22 "BinMap$Bins" "previous" "[I" ∈ xt_tbl := xt_of (by decide +kernel) rfl
theorem g_Bi_previous {X : xz_X} {cA : ClassId} {ad : Nat → Nat} {cc : ByteArray} {nL : Nat} {ret : Option FieldType} {R : Room} {s : zT} {k n pc : Nat} {L : List (Nat × Value)} {st : List Value} (d : decode cc pc = .ok (.getfield 22, 3)) (kk : xs X cA RX0 cc nL ret R (wd ad cA s) k n (pc + 3) L (.ref (ad 6) :: st)) : xs X cA RX0 cc nL ret R (wd ad cA s) k n pc L (.ref (ad 1) :: st) :=
  xs_get (C := RX0) (T := TX0) (N := 7) 1 2 d rfl rfl (xt_u iX0) (by decide) fl_Bi_previous rfl rfl kk
theorem fl_Bi_heads : Cond.fieldLink RX0 25 "BinMap$Bins" "heads" "[I" ∈ xt_tbl := xt_of (by decide +kernel) rfl
theorem g_Bi_heads {X : xz_X} {cA : ClassId} {ad : Nat → Nat} {cc : ByteArray} {nL : Nat} {ret : Option FieldType} {R : Room} {s : zT} {k n pc : Nat} {L : List (Nat × Value)} {st : List Value} (d : decode cc pc = .ok (.getfield 25, 3)) (kk : xs X cA RX0 cc nL ret R (wd ad cA s) k n (pc + 3) L (.ref (ad 7) :: st)) : xs X cA RX0 cc nL ret R (wd ad cA s) k n pc L (.ref (ad 1) :: st) :=
  xs_get (C := RX0) (T := TX0) (N := 7) 1 3 d rfl rfl (xt_u iX0) (by decide) fl_Bi_heads rfl rfl kk
theorem fl_Bi_roots : Cond.fieldLink RX0 28 "BinMap$Bins" "roots" "[I" ∈ xt_tbl := xt_of (by decide +kernel) rfl
theorem g_Bi_roots {X : xz_X} {cA : ClassId} {ad : Nat → Nat} {cc : ByteArray} {nL : Nat} {ret : Option FieldType} {R : Room} {s : zT} {k n pc : Nat} {L : List (Nat × Value)} {st : List Value} (d : decode cc pc = .ok (.getfield 28, 3)) (kk : xs X cA RX0 cc nL ret R (wd ad cA s) k n (pc + 3) L (.ref (ad 8) :: st)) : xs X cA RX0 cc nL ret R (wd ad cA s) k n pc L (.ref (ad 1) :: st) :=
  xs_get (C := RX0) (T := TX0) (N := 7) 1 4 d rfl rfl (xt_u iX0) (by decide) fl_Bi_roots rfl rfl kk
theorem fl_Bi_room : Cond.fieldLink RX0 31 "BinMap$Bins" "room" "I" ∈ xt_tbl := xt_of (by decide +kernel) rfl
theorem g_Bi_room {X : xz_X} {cA : ClassId} {ad : Nat → Nat} {cc : ByteArray} {nL : Nat} {ret : Option FieldType} {R : Room} {s : zT} {k n pc : Nat} {L : List (Nat × Value)} {st : List Value} (d : decode cc pc = .ok (.getfield 31, 3)) (kk : xs X cA RX0 cc nL ret R (wd ad cA s) k n (pc + 3) L (.int (s.2 4 3) :: st)) : xs X cA RX0 cc nL ret R (wd ad cA s) k n pc L (.ref (ad 1) :: st) :=
  xs_get (C := RX0) (T := TX0) (N := 7) 1 5 d rfl rfl (xt_u iX0) (by decide) fl_Bi_room rfl rfl kk
theorem p_Bi_room {X : xz_X} {cA : ClassId} {ad : Nat → Nat} {cc : ByteArray} {nL : Nat} {ret : Option FieldType} {R : Room} {s : zT} {k n pc : Nat} {L : List (Nat × Value)} {st : List Value} {x : Int32} (d : decode cc pc = .ok (.putfield 31, 3)) (kk : xs X cA RX0 cc nL ret R (wd ad cA (u2 s 4 3 x)) k n (pc + 3) L st) : xs X cA RX0 cc nL ret R (wd ad cA s) k n pc L (.int x :: .ref (ad 1) :: st) :=
  xs_put (C := RX0) (T := TX0) (N := 7) (ty := .int) 1 5 tyX0 d rfl rfl (xt_u iX0) tyX0_ok nmX0 (by decide) fl_Bi_room rfl rfl (by decide +kernel) rfl rfl (Nat.le_of_ble_eq_true rfl) rfl kk
theorem fl_Bi_function : Cond.fieldLink RX0 35 "BinMap$Bins" "function" "I" ∈ xt_tbl := xt_of (by decide +kernel) rfl
theorem g_Bi_function {X : xz_X} {cA : ClassId} {ad : Nat → Nat} {cc : ByteArray} {nL : Nat} {ret : Option FieldType} {R : Room} {s : zT} {k n pc : Nat} {L : List (Nat × Value)} {st : List Value} (d : decode cc pc = .ok (.getfield 35, 3)) (kk : xs X cA RX0 cc nL ret R (wd ad cA s) k n (pc + 3) L (.int (s.2 4 4) :: st)) : xs X cA RX0 cc nL ret R (wd ad cA s) k n pc L (.ref (ad 1) :: st) :=
  xs_get (C := RX0) (T := TX0) (N := 7) 1 6 d rfl rfl (xt_u iX0) (by decide) fl_Bi_function rfl rfl kk
theorem p_Bi_function {X : xz_X} {cA : ClassId} {ad : Nat → Nat} {cc : ByteArray} {nL : Nat} {ret : Option FieldType} {R : Room} {s : zT} {k n pc : Nat} {L : List (Nat × Value)} {st : List Value} {x : Int32} (d : decode cc pc = .ok (.putfield 35, 3)) (kk : xs X cA RX0 cc nL ret R (wd ad cA (u2 s 4 4 x)) k n (pc + 3) L st) : xs X cA RX0 cc nL ret R (wd ad cA s) k n pc L (.int x :: .ref (ad 1) :: st) :=
  xs_put (C := RX0) (T := TX0) (N := 7) (ty := .int) 1 6 tyX0 d rfl rfl (xt_u iX0) tyX0_ok nmX0 (by decide) fl_Bi_function rfl rfl (by decide +kernel) rfl rfl (Nat.le_of_ble_eq_true rfl) rfl kk
theorem fl_Tr_keys : Cond.fieldLink RX2 9 "BinMap$Trees" "keys" "[I" ∈ xt_tbl := xt_of (by decide +kernel) rfl
theorem g_Tr_keys {X : xz_X} {cA : ClassId} {ad : Nat → Nat} {cc : ByteArray} {nL : Nat} {ret : Option FieldType} {R : Room} {s : zT} {k n pc : Nat} {L : List (Nat × Value)} {st : List Value} (d : decode cc pc = .ok (.getfield 9, 3)) (kk : xs X cA RX2 cc nL ret R (wd ad cA s) k n (pc + 3) L (.ref (ad 12) :: st)) : xs X cA RX2 cc nL ret R (wd ad cA s) k n pc L (.ref (ad 4) :: st) :=
  xs_get (C := RX2) (T := TX2) (N := 5) 4 0 d rfl rfl (xt_u iX2) (by decide) fl_Tr_keys rfl rfl kk
theorem fl_Tr_left : Cond.fieldLink RX2 15 "BinMap$Trees" "left" "[I" ∈ xt_tbl := xt_of (by decide +kernel) rfl
theorem g_Tr_left {X : xz_X} {cA : ClassId} {ad : Nat → Nat} {cc : ByteArray} {nL : Nat} {ret : Option FieldType} {R : Room} {s : zT} {k n pc : Nat} {L : List (Nat × Value)} {st : List Value} (d : decode cc pc = .ok (.getfield 15, 3)) (kk : xs X cA RX2 cc nL ret R (wd ad cA s) k n (pc + 3) L (.ref (ad 13) :: st)) : xs X cA RX2 cc nL ret R (wd ad cA s) k n pc L (.ref (ad 4) :: st) :=
  xs_get (C := RX2) (T := TX2) (N := 5) 4 1 d rfl rfl (xt_u iX2) (by decide) fl_Tr_left rfl rfl kk
theorem fl_Tr_right : Cond.fieldLink RX2 18 "BinMap$Trees" "right" "[I" ∈ xt_tbl := xt_of (by decide +kernel) rfl
theorem g_Tr_right {X : xz_X} {cA : ClassId} {ad : Nat → Nat} {cc : ByteArray} {nL : Nat} {ret : Option FieldType} {R : Room} {s : zT} {k n pc : Nat} {L : List (Nat × Value)} {st : List Value} (d : decode cc pc = .ok (.getfield 18, 3)) (kk : xs X cA RX2 cc nL ret R (wd ad cA s) k n (pc + 3) L (.ref (ad 14) :: st)) : xs X cA RX2 cc nL ret R (wd ad cA s) k n pc L (.ref (ad 4) :: st) :=
  xs_get (C := RX2) (T := TX2) (N := 5) 4 2 d rfl rfl (xt_u iX2) (by decide) fl_Tr_right rfl rfl kk
theorem fl_Tr_heights : Cond.fieldLink RX2 21 "BinMap$Trees" "heights" "[I" ∈ xt_tbl := xt_of (by decide +kernel) rfl
theorem g_Tr_heights {X : xz_X} {cA : ClassId} {ad : Nat → Nat} {cc : ByteArray} {nL : Nat} {ret : Option FieldType} {R : Room} {s : zT} {k n pc : Nat} {L : List (Nat × Value)} {st : List Value} (d : decode cc pc = .ok (.getfield 21, 3)) (kk : xs X cA RX2 cc nL ret R (wd ad cA s) k n (pc + 3) L (.ref (ad 15) :: st)) : xs X cA RX2 cc nL ret R (wd ad cA s) k n pc L (.ref (ad 4) :: st) :=
  xs_get (C := RX2) (T := TX2) (N := 5) 4 3 d rfl rfl (xt_u iX2) (by decide) fl_Tr_heights rfl rfl kk
theorem fl_Tr_path : Cond.fieldLink RX2 24 "BinMap$Trees" "path" "[I" ∈ xt_tbl := xt_of (by decide +kernel) rfl
theorem g_Tr_path {X : xz_X} {cA : ClassId} {ad : Nat → Nat} {cc : ByteArray} {nL : Nat} {ret : Option FieldType} {R : Room} {s : zT} {k n pc : Nat} {L : List (Nat × Value)} {st : List Value} (d : decode cc pc = .ok (.getfield 24, 3)) (kk : xs X cA RX2 cc nL ret R (wd ad cA s) k n (pc + 3) L (.ref (ad 16) :: st)) : xs X cA RX2 cc nL ret R (wd ad cA s) k n pc L (.ref (ad 4) :: st) :=
  xs_get (C := RX2) (T := TX2) (N := 5) 4 4 d rfl rfl (xt_u iX2) (by decide) fl_Tr_path rfl rfl kk
theorem al_I3 {X : xz_X} {cA : ClassId} {ad : Nat → Nat} {own : String} {cc : ByteArray} {nL : Nat} {ret : Option FieldType} {R : Room} {s : zT} {k n pc : Nat} {L : List (Nat × Value)} {st : List Value} {i : zS} (d : decode cc pc = .ok (.iaload, 1)) (kk : xs X cA own cc nL ret R (wd ad cA s) k n (pc + 1) L (.int (s.2 3 i.val) :: st)) : xs X cA own cc nL ret R (wd ad cA s) k n pc L (.int (zs i) :: .ref (ad 3) :: st) :=
  xs_iald (N := 2002) 3 d rfl (zs_in i) (by rw [zs_clamp]) kk
theorem as_I3 {X : xz_X} {cA : ClassId} {ad : Nat → Nat} {own : String} {cc : ByteArray} {nL : Nat} {ret : Option FieldType} {R : Room} {s : zT} {k n pc : Nat} {L : List (Nat × Value)} {st : List Value} {i : zS} {x : Int32} (d : decode cc pc = .ok (.iastore, 1)) (kk : xs X cA own cc nL ret R (wd ad cA (u2 s 3 i.val x)) k n (pc + 1) L st) : xs X cA own cc nL ret R (wd ad cA s) k n pc L (.int (x) :: .int (zs i) :: .ref (ad 3) :: st) :=
  xs_iast (N := 2002) 3 d rfl (zs_in i) (by rw [zs_clamp, up_zi]; rfl) kk
theorem al_S2 {X : xz_X} {cA : ClassId} {ad : Nat → Nat} {own : String} {cc : ByteArray} {nL : Nat} {ret : Option FieldType} {R : Room} {s : zT} {k n pc : Nat} {L : List (Nat × Value)} {st : List Value} {i : zS} (d : decode cc pc = .ok (.iaload, 1)) (kk : xs X cA own cc nL ret R (wd ad cA s) k n (pc + 1) L (.int (zs (s.1 2 i.val)) :: st)) : xs X cA own cc nL ret R (wd ad cA s) k n pc L (.int (zs i) :: .ref (ad 5) :: st) :=
  xs_iald (N := 2002) 5 d rfl (zs_in i) (by rw [zs_clamp]) kk
theorem as_S2 {X : xz_X} {cA : ClassId} {ad : Nat → Nat} {own : String} {cc : ByteArray} {nL : Nat} {ret : Option FieldType} {R : Room} {s : zT} {k n pc : Nat} {L : List (Nat × Value)} {st : List Value} {i : zS} {x : zS} (d : decode cc pc = .ok (.iastore, 1)) (kk : xs X cA own cc nL ret R (wd ad cA (u1 s 2 i.val x)) k n (pc + 1) L st) : xs X cA own cc nL ret R (wd ad cA s) k n pc L (.int (zs x) :: .int (zs i) :: .ref (ad 5) :: st) :=
  xs_iast (N := 2002) 5 d rfl (zs_in i) (by rw [zs_clamp, up_zs]; rfl) kk
theorem al_S3 {X : xz_X} {cA : ClassId} {ad : Nat → Nat} {own : String} {cc : ByteArray} {nL : Nat} {ret : Option FieldType} {R : Room} {s : zT} {k n pc : Nat} {L : List (Nat × Value)} {st : List Value} {i : zS} (d : decode cc pc = .ok (.iaload, 1)) (kk : xs X cA own cc nL ret R (wd ad cA s) k n (pc + 1) L (.int (zs (s.1 3 i.val)) :: st)) : xs X cA own cc nL ret R (wd ad cA s) k n pc L (.int (zs i) :: .ref (ad 6) :: st) :=
  xs_iald (N := 2002) 6 d rfl (zs_in i) (by rw [zs_clamp]) kk
theorem as_S3 {X : xz_X} {cA : ClassId} {ad : Nat → Nat} {own : String} {cc : ByteArray} {nL : Nat} {ret : Option FieldType} {R : Room} {s : zT} {k n pc : Nat} {L : List (Nat × Value)} {st : List Value} {i : zS} {x : zS} (d : decode cc pc = .ok (.iastore, 1)) (kk : xs X cA own cc nL ret R (wd ad cA (u1 s 3 i.val x)) k n (pc + 1) L st) : xs X cA own cc nL ret R (wd ad cA s) k n pc L (.int (zs x) :: .int (zs i) :: .ref (ad 6) :: st) :=
  xs_iast (N := 2002) 6 d rfl (zs_in i) (by rw [zs_clamp, up_zs]; rfl) kk
theorem al_S4 {X : xz_X} {cA : ClassId} {ad : Nat → Nat} {own : String} {cc : ByteArray} {nL : Nat} {ret : Option FieldType} {R : Room} {s : zT} {k n pc : Nat} {L : List (Nat × Value)} {st : List Value} {i : zP} (d : decode cc pc = .ok (.iaload, 1)) (kk : xs X cA own cc nL ret R (wd ad cA s) k n (pc + 1) L (.int (zs (s.1 4 i.val)) :: st)) : xs X cA own cc nL ret R (wd ad cA s) k n pc L (.int (zp i) :: .ref (ad 7) :: st) :=
  xs_iald (N := 4096) 7 d rfl (zp_in i) (by rw [zp_clamp]) kk
theorem as_S4 {X : xz_X} {cA : ClassId} {ad : Nat → Nat} {own : String} {cc : ByteArray} {nL : Nat} {ret : Option FieldType} {R : Room} {s : zT} {k n pc : Nat} {L : List (Nat × Value)} {st : List Value} {i : zP} {x : zS} (d : decode cc pc = .ok (.iastore, 1)) (kk : xs X cA own cc nL ret R (wd ad cA (u1 s 4 i.val x)) k n (pc + 1) L st) : xs X cA own cc nL ret R (wd ad cA s) k n pc L (.int (zs x) :: .int (zp i) :: .ref (ad 7) :: st) :=
  xs_iast (N := 4096) 7 d rfl (zp_in i) (by rw [zp_clamp, up_zs]; rfl) kk
theorem aln_S4 {X : xz_X} {cA : ClassId} {ad : Nat → Nat} {own : String} {cc : ByteArray} {nL : Nat} {ret : Option FieldType} {R : Room} {s : zT} {k n pc : Nat} {L : List (Nat × Value)} {st : List Value} {i : Nat} (d : decode cc pc = .ok (.iaload, 1)) (hi : i < 4096) (kk : xs X cA own cc nL ret R (wd ad cA s) k n (pc + 1) L (.int (zs (s.1 4 i)) :: st)) : xs X cA own cc nL ret R (wd ad cA s) k n pc L (.int (nI i) :: .ref (ad 7) :: st) :=
  xs_iald (N := 4096) 7 d rfl (vp_in_nI hi (by decide)) (by rw [nI_clamp (Nat.lt_trans hi (by decide))]) kk
theorem asn_S4 {X : xz_X} {cA : ClassId} {ad : Nat → Nat} {own : String} {cc : ByteArray} {nL : Nat} {ret : Option FieldType} {R : Room} {s : zT} {k n pc : Nat} {L : List (Nat × Value)} {st : List Value} {i : Nat} {x : zS} (d : decode cc pc = .ok (.iastore, 1)) (hi : i < 4096) (kk : xs X cA own cc nL ret R (wd ad cA (u1 s 4 i x)) k n (pc + 1) L st) : xs X cA own cc nL ret R (wd ad cA s) k n pc L (.int (zs x) :: .int (nI i) :: .ref (ad 7) :: st) :=
  xs_iast (N := 4096) 7 d rfl (vp_in_nI hi (by decide)) (by rw [nI_clamp (Nat.lt_trans hi (by decide)), up_zs]; rfl) kk
theorem al_S5 {X : xz_X} {cA : ClassId} {ad : Nat → Nat} {own : String} {cc : ByteArray} {nL : Nat} {ret : Option FieldType} {R : Room} {s : zT} {k n pc : Nat} {L : List (Nat × Value)} {st : List Value} {i : zP} (d : decode cc pc = .ok (.iaload, 1)) (kk : xs X cA own cc nL ret R (wd ad cA s) k n (pc + 1) L (.int (zs (s.1 5 i.val)) :: st)) : xs X cA own cc nL ret R (wd ad cA s) k n pc L (.int (zp i) :: .ref (ad 8) :: st) :=
  xs_iald (N := 4096) 8 d rfl (zp_in i) (by rw [zp_clamp]) kk
theorem as_S5 {X : xz_X} {cA : ClassId} {ad : Nat → Nat} {own : String} {cc : ByteArray} {nL : Nat} {ret : Option FieldType} {R : Room} {s : zT} {k n pc : Nat} {L : List (Nat × Value)} {st : List Value} {i : zP} {x : zS} (d : decode cc pc = .ok (.iastore, 1)) (kk : xs X cA own cc nL ret R (wd ad cA (u1 s 5 i.val x)) k n (pc + 1) L st) : xs X cA own cc nL ret R (wd ad cA s) k n pc L (.int (zs x) :: .int (zp i) :: .ref (ad 8) :: st) :=
  xs_iast (N := 4096) 8 d rfl (zp_in i) (by rw [zp_clamp, up_zs]; rfl) kk
theorem aln_S5 {X : xz_X} {cA : ClassId} {ad : Nat → Nat} {own : String} {cc : ByteArray} {nL : Nat} {ret : Option FieldType} {R : Room} {s : zT} {k n pc : Nat} {L : List (Nat × Value)} {st : List Value} {i : Nat} (d : decode cc pc = .ok (.iaload, 1)) (hi : i < 4096) (kk : xs X cA own cc nL ret R (wd ad cA s) k n (pc + 1) L (.int (zs (s.1 5 i)) :: st)) : xs X cA own cc nL ret R (wd ad cA s) k n pc L (.int (nI i) :: .ref (ad 8) :: st) :=
  xs_iald (N := 4096) 8 d rfl (vp_in_nI hi (by decide)) (by rw [nI_clamp (Nat.lt_trans hi (by decide))]) kk
theorem asn_S5 {X : xz_X} {cA : ClassId} {ad : Nat → Nat} {own : String} {cc : ByteArray} {nL : Nat} {ret : Option FieldType} {R : Room} {s : zT} {k n pc : Nat} {L : List (Nat × Value)} {st : List Value} {i : Nat} {x : zS} (d : decode cc pc = .ok (.iastore, 1)) (hi : i < 4096) (kk : xs X cA own cc nL ret R (wd ad cA (u1 s 5 i x)) k n (pc + 1) L st) : xs X cA own cc nL ret R (wd ad cA s) k n pc L (.int (zs x) :: .int (nI i) :: .ref (ad 8) :: st) :=
  xs_iast (N := 4096) 8 d rfl (vp_in_nI hi (by decide)) (by rw [nI_clamp (Nat.lt_trans hi (by decide)), up_zs]; rfl) kk
theorem al_S0 {X : xz_X} {cA : ClassId} {ad : Nat → Nat} {own : String} {cc : ByteArray} {nL : Nat} {ret : Option FieldType} {R : Room} {s : zT} {k n pc : Nat} {L : List (Nat × Value)} {st : List Value} {i : zS} (d : decode cc pc = .ok (.iaload, 1)) (kk : xs X cA own cc nL ret R (wd ad cA s) k n (pc + 1) L (.int (zs (s.1 0 i.val)) :: st)) : xs X cA own cc nL ret R (wd ad cA s) k n pc L (.int (zs i) :: .ref (ad 9) :: st) :=
  xs_iald (N := 2002) 9 d rfl (zs_in i) (by rw [zs_clamp]) kk
theorem as_S0 {X : xz_X} {cA : ClassId} {ad : Nat → Nat} {own : String} {cc : ByteArray} {nL : Nat} {ret : Option FieldType} {R : Room} {s : zT} {k n pc : Nat} {L : List (Nat × Value)} {st : List Value} {i : zS} {x : zS} (d : decode cc pc = .ok (.iastore, 1)) (kk : xs X cA own cc nL ret R (wd ad cA (u1 s 0 i.val x)) k n (pc + 1) L st) : xs X cA own cc nL ret R (wd ad cA s) k n pc L (.int (zs x) :: .int (zs i) :: .ref (ad 9) :: st) :=
  xs_iast (N := 2002) 9 d rfl (zs_in i) (by rw [zs_clamp, up_zs]; rfl) kk
theorem al_S1 {X : xz_X} {cA : ClassId} {ad : Nat → Nat} {own : String} {cc : ByteArray} {nL : Nat} {ret : Option FieldType} {R : Room} {s : zT} {k n pc : Nat} {L : List (Nat × Value)} {st : List Value} {i : zS} (d : decode cc pc = .ok (.iaload, 1)) (kk : xs X cA own cc nL ret R (wd ad cA s) k n (pc + 1) L (.int (zs (s.1 1 i.val)) :: st)) : xs X cA own cc nL ret R (wd ad cA s) k n pc L (.int (zs i) :: .ref (ad 10) :: st) :=
  xs_iald (N := 2002) 10 d rfl (zs_in i) (by rw [zs_clamp]) kk
theorem as_S1 {X : xz_X} {cA : ClassId} {ad : Nat → Nat} {own : String} {cc : ByteArray} {nL : Nat} {ret : Option FieldType} {R : Room} {s : zT} {k n pc : Nat} {L : List (Nat × Value)} {st : List Value} {i : zS} {x : zS} (d : decode cc pc = .ok (.iastore, 1)) (kk : xs X cA own cc nL ret R (wd ad cA (u1 s 1 i.val x)) k n (pc + 1) L st) : xs X cA own cc nL ret R (wd ad cA s) k n pc L (.int (zs x) :: .int (zs i) :: .ref (ad 10) :: st) :=
  xs_iast (N := 2002) 10 d rfl (zs_in i) (by rw [zs_clamp, up_zs]; rfl) kk
theorem al_I2 {X : xz_X} {cA : ClassId} {ad : Nat → Nat} {own : String} {cc : ByteArray} {nL : Nat} {ret : Option FieldType} {R : Room} {s : zT} {k n pc : Nat} {L : List (Nat × Value)} {st : List Value} {i : zS} (d : decode cc pc = .ok (.iaload, 1)) (kk : xs X cA own cc nL ret R (wd ad cA s) k n (pc + 1) L (.int (s.2 2 i.val) :: st)) : xs X cA own cc nL ret R (wd ad cA s) k n pc L (.int (zs i) :: .ref (ad 11) :: st) :=
  xs_iald (N := 2002) 11 d rfl (zs_in i) (by rw [zs_clamp]) kk
theorem as_I2 {X : xz_X} {cA : ClassId} {ad : Nat → Nat} {own : String} {cc : ByteArray} {nL : Nat} {ret : Option FieldType} {R : Room} {s : zT} {k n pc : Nat} {L : List (Nat × Value)} {st : List Value} {i : zS} {x : Int32} (d : decode cc pc = .ok (.iastore, 1)) (kk : xs X cA own cc nL ret R (wd ad cA (u2 s 2 i.val x)) k n (pc + 1) L st) : xs X cA own cc nL ret R (wd ad cA s) k n pc L (.int (x) :: .int (zs i) :: .ref (ad 11) :: st) :=
  xs_iast (N := 2002) 11 d rfl (zs_in i) (by rw [zs_clamp, up_zi]; rfl) kk
theorem al_I0 {X : xz_X} {cA : ClassId} {ad : Nat → Nat} {own : String} {cc : ByteArray} {nL : Nat} {ret : Option FieldType} {R : Room} {s : zT} {k n pc : Nat} {L : List (Nat × Value)} {st : List Value} {i : zS} (d : decode cc pc = .ok (.iaload, 1)) (kk : xs X cA own cc nL ret R (wd ad cA s) k n (pc + 1) L (.int (s.2 0 i.val) :: st)) : xs X cA own cc nL ret R (wd ad cA s) k n pc L (.int (zs i) :: .ref (ad 12) :: st) :=
  xs_iald (N := 2002) 12 d rfl (zs_in i) (by rw [zs_clamp]) kk
theorem as_I0 {X : xz_X} {cA : ClassId} {ad : Nat → Nat} {own : String} {cc : ByteArray} {nL : Nat} {ret : Option FieldType} {R : Room} {s : zT} {k n pc : Nat} {L : List (Nat × Value)} {st : List Value} {i : zS} {x : Int32} (d : decode cc pc = .ok (.iastore, 1)) (kk : xs X cA own cc nL ret R (wd ad cA (u2 s 0 i.val x)) k n (pc + 1) L st) : xs X cA own cc nL ret R (wd ad cA s) k n pc L (.int (x) :: .int (zs i) :: .ref (ad 12) :: st) :=
  xs_iast (N := 2002) 12 d rfl (zs_in i) (by rw [zs_clamp, up_zi]; rfl) kk
theorem al_S6 {X : xz_X} {cA : ClassId} {ad : Nat → Nat} {own : String} {cc : ByteArray} {nL : Nat} {ret : Option FieldType} {R : Room} {s : zT} {k n pc : Nat} {L : List (Nat × Value)} {st : List Value} {i : zS} (d : decode cc pc = .ok (.iaload, 1)) (kk : xs X cA own cc nL ret R (wd ad cA s) k n (pc + 1) L (.int (zs (s.1 6 i.val)) :: st)) : xs X cA own cc nL ret R (wd ad cA s) k n pc L (.int (zs i) :: .ref (ad 13) :: st) :=
  xs_iald (N := 2002) 13 d rfl (zs_in i) (by rw [zs_clamp]) kk
theorem as_S6 {X : xz_X} {cA : ClassId} {ad : Nat → Nat} {own : String} {cc : ByteArray} {nL : Nat} {ret : Option FieldType} {R : Room} {s : zT} {k n pc : Nat} {L : List (Nat × Value)} {st : List Value} {i : zS} {x : zS} (d : decode cc pc = .ok (.iastore, 1)) (kk : xs X cA own cc nL ret R (wd ad cA (u1 s 6 i.val x)) k n (pc + 1) L st) : xs X cA own cc nL ret R (wd ad cA s) k n pc L (.int (zs x) :: .int (zs i) :: .ref (ad 13) :: st) :=
  xs_iast (N := 2002) 13 d rfl (zs_in i) (by rw [zs_clamp, up_zs]; rfl) kk
theorem al_S7 {X : xz_X} {cA : ClassId} {ad : Nat → Nat} {own : String} {cc : ByteArray} {nL : Nat} {ret : Option FieldType} {R : Room} {s : zT} {k n pc : Nat} {L : List (Nat × Value)} {st : List Value} {i : zS} (d : decode cc pc = .ok (.iaload, 1)) (kk : xs X cA own cc nL ret R (wd ad cA s) k n (pc + 1) L (.int (zs (s.1 7 i.val)) :: st)) : xs X cA own cc nL ret R (wd ad cA s) k n pc L (.int (zs i) :: .ref (ad 14) :: st) :=
  xs_iald (N := 2002) 14 d rfl (zs_in i) (by rw [zs_clamp]) kk
theorem as_S7 {X : xz_X} {cA : ClassId} {ad : Nat → Nat} {own : String} {cc : ByteArray} {nL : Nat} {ret : Option FieldType} {R : Room} {s : zT} {k n pc : Nat} {L : List (Nat × Value)} {st : List Value} {i : zS} {x : zS} (d : decode cc pc = .ok (.iastore, 1)) (kk : xs X cA own cc nL ret R (wd ad cA (u1 s 7 i.val x)) k n (pc + 1) L st) : xs X cA own cc nL ret R (wd ad cA s) k n pc L (.int (zs x) :: .int (zs i) :: .ref (ad 14) :: st) :=
  xs_iast (N := 2002) 14 d rfl (zs_in i) (by rw [zs_clamp, up_zs]; rfl) kk
theorem al_I1 {X : xz_X} {cA : ClassId} {ad : Nat → Nat} {own : String} {cc : ByteArray} {nL : Nat} {ret : Option FieldType} {R : Room} {s : zT} {k n pc : Nat} {L : List (Nat × Value)} {st : List Value} {i : zS} (d : decode cc pc = .ok (.iaload, 1)) (kk : xs X cA own cc nL ret R (wd ad cA s) k n (pc + 1) L (.int (s.2 1 i.val) :: st)) : xs X cA own cc nL ret R (wd ad cA s) k n pc L (.int (zs i) :: .ref (ad 15) :: st) :=
  xs_iald (N := 2002) 15 d rfl (zs_in i) (by rw [zs_clamp]) kk
theorem as_I1 {X : xz_X} {cA : ClassId} {ad : Nat → Nat} {own : String} {cc : ByteArray} {nL : Nat} {ret : Option FieldType} {R : Room} {s : zT} {k n pc : Nat} {L : List (Nat × Value)} {st : List Value} {i : zS} {x : Int32} (d : decode cc pc = .ok (.iastore, 1)) (kk : xs X cA own cc nL ret R (wd ad cA (u2 s 1 i.val x)) k n (pc + 1) L st) : xs X cA own cc nL ret R (wd ad cA s) k n pc L (.int (x) :: .int (zs i) :: .ref (ad 15) :: st) :=
  xs_iast (N := 2002) 15 d rfl (zs_in i) (by rw [zs_clamp, up_zi]; rfl) kk
theorem aln_S8 {X : xz_X} {cA : ClassId} {ad : Nat → Nat} {own : String} {cc : ByteArray} {nL : Nat} {ret : Option FieldType} {R : Room} {s : zT} {k n pc : Nat} {L : List (Nat × Value)} {st : List Value} {i : Nat} (d : decode cc pc = .ok (.iaload, 1)) (hi : i < 40) (kk : xs X cA own cc nL ret R (wd ad cA s) k n (pc + 1) L (.int (zs (s.1 8 i)) :: st)) : xs X cA own cc nL ret R (wd ad cA s) k n pc L (.int (nI i) :: .ref (ad 16) :: st) :=
  xs_iald (N := 40) 16 d rfl (vp_in_nI hi (by decide)) (by rw [nI_clamp (Nat.lt_trans hi (by decide))]) kk
theorem asn_S8 {X : xz_X} {cA : ClassId} {ad : Nat → Nat} {own : String} {cc : ByteArray} {nL : Nat} {ret : Option FieldType} {R : Room} {s : zT} {k n pc : Nat} {L : List (Nat × Value)} {st : List Value} {i : Nat} {x : zS} (d : decode cc pc = .ok (.iastore, 1)) (hi : i < 40) (kk : xs X cA own cc nL ret R (wd ad cA (u1 s 8 i x)) k n (pc + 1) L st) : xs X cA own cc nL ret R (wd ad cA s) k n pc L (.int (zs x) :: .int (nI i) :: .ref (ad 16) :: st) :=
  xs_iast (N := 40) 16 d rfl (vp_in_nI hi (by decide)) (by rw [nI_clamp (Nat.lt_trans hi (by decide)), up_zs]; rfl) kk
end
section
theorem dX1_init_0 : decode cX1_init 0 = .ok (.aload_n 0, 1) := by decide +kernel
theorem dX1_init_1 : decode cX1_init 1 = .ok (.invokespecial 3, 3) := by decide +kernel
theorem dX1_init_4 : decode cX1_init 4 = .ok (.aload_n 0, 1) := by decide +kernel
theorem dX1_init_5 : decode cX1_init 5 = .ok (.sipush 2002, 3) := by decide +kernel
theorem dX1_init_8 : decode cX1_init 8 = .ok (.newarray .int, 2) := by decide +kernel
theorem dX1_init_10 : decode cX1_init 10 = .ok (.putfield 9, 3) := by decide +kernel
theorem dX1_init_13 : decode cX1_init 13 = .ok (.aload_n 0, 1) := by decide +kernel
theorem dX1_init_14 : decode cX1_init 14 = .ok (.sipush 2002, 3) := by decide +kernel
theorem dX1_init_17 : decode cX1_init 17 = .ok (.newarray .int, 2) := by decide +kernel
theorem dX1_init_19 : decode cX1_init 19 = .ok (.putfield 15, 3) := by decide +kernel
theorem dX1_init_22 : decode cX1_init 22 = .ok (.aload_n 0, 1) := by decide +kernel
theorem dX1_init_23 : decode cX1_init 23 = .ok (.sipush 2002, 3) := by decide +kernel
theorem dX1_init_26 : decode cX1_init 26 = .ok (.newarray .int, 2) := by decide +kernel
theorem dX1_init_28 : decode cX1_init 28 = .ok (.putfield 18, 3) := by decide +kernel
theorem dX1_init_31 : decode cX1_init 31 = .ok (.iconst 1, 1) := by decide +kernel
theorem dX1_init_32 : decode cX1_init 32 = .ok (.istore_n 1, 1) := by decide +kernel
theorem dX1_init_33 : decode cX1_init 33 = .ok (.iload_n 1, 1) := by decide +kernel
theorem dX1_init_34 : decode cX1_init 34 = .ok (.sipush 2001, 3) := by decide +kernel
theorem dX1_init_37 : decode cX1_init 37 = .ok (.if_icmp .ge 18, 3) := by decide +kernel
theorem dX1_init_40 : decode cX1_init 40 = .ok (.aload_n 0, 1) := by decide +kernel
theorem dX1_init_41 : decode cX1_init 41 = .ok (.getfield 15, 3) := by decide +kernel
theorem dX1_init_44 : decode cX1_init 44 = .ok (.iload_n 1, 1) := by decide +kernel
theorem dX1_init_45 : decode cX1_init 45 = .ok (.iload_n 1, 1) := by decide +kernel
theorem dX1_init_46 : decode cX1_init 46 = .ok (.iconst 1, 1) := by decide +kernel
theorem dX1_init_47 : decode cX1_init 47 = .ok (.iadd, 1) := by decide +kernel
theorem dX1_init_48 : decode cX1_init 48 = .ok (.iastore, 1) := by decide +kernel
theorem dX1_init_49 : decode cX1_init 49 = .ok (.iinc 1 1, 3) := by decide +kernel
theorem dX1_init_52 : decode cX1_init 52 = .ok (.goto (-19), 3) := by decide +kernel
theorem dX1_init_55 : decode cX1_init 55 = .ok (.aload_n 0, 1) := by decide +kernel
theorem dX1_init_56 : decode cX1_init 56 = .ok (.iconst 0, 1) := by decide +kernel
theorem dX1_init_57 : decode cX1_init 57 = .ok (.putfield 21, 3) := by decide +kernel
theorem dX1_init_60 : decode cX1_init 60 = .ok (.aload_n 0, 1) := by decide +kernel
theorem dX1_init_61 : decode cX1_init 61 = .ok (.iconst 0, 1) := by decide +kernel
theorem dX1_init_62 : decode cX1_init 62 = .ok (.putfield 25, 3) := by decide +kernel
theorem dX1_init_65 : decode cX1_init 65 = .ok (.aload_n 0, 1) := by decide +kernel
theorem dX1_init_66 : decode cX1_init 66 = .ok (.iconst 0, 1) := by decide +kernel
theorem dX1_init_67 : decode cX1_init 67 = .ok (.putfield 28, 3) := by decide +kernel
theorem dX1_init_70 : decode cX1_init 70 = .ok (.aload_n 0, 1) := by decide +kernel
theorem dX1_init_71 : decode cX1_init 71 = .ok (.iconst 1, 1) := by decide +kernel
theorem dX1_init_72 : decode cX1_init 72 = .ok (.putfield 31, 3) := by decide +kernel
theorem dX1_init_75 : decode cX1_init 75 = .ok (.return_, 1) := by decide +kernel
theorem dX1_count_0 : decode cX1_count 0 = .ok (.aload_n 0, 1) := by decide +kernel
theorem dX1_count_1 : decode cX1_count 1 = .ok (.getfield 28, 3) := by decide +kernel
theorem dX1_count_4 : decode cX1_count 4 = .ok (.ireturn, 1) := by decide +kernel
theorem dX1_first_0 : decode cX1_first 0 = .ok (.aload_n 0, 1) := by decide +kernel
theorem dX1_first_1 : decode cX1_first 1 = .ok (.getfield 21, 3) := by decide +kernel
theorem dX1_first_4 : decode cX1_first 4 = .ok (.ireturn, 1) := by decide +kernel
theorem dX1_behind_0 : decode cX1_behind 0 = .ok (.aload_n 0, 1) := by decide +kernel
theorem dX1_behind_1 : decode cX1_behind 1 = .ok (.getfield 15, 3) := by decide +kernel
theorem dX1_behind_4 : decode cX1_behind 4 = .ok (.iload_n 1, 1) := by decide +kernel
theorem dX1_behind_5 : decode cX1_behind 5 = .ok (.iaload, 1) := by decide +kernel
theorem dX1_behind_6 : decode cX1_behind 6 = .ok (.ireturn, 1) := by decide +kernel
theorem dX1_rankOf_0 : decode cX1_rankOf 0 = .ok (.aload_n 0, 1) := by decide +kernel
theorem dX1_rankOf_1 : decode cX1_rankOf 1 = .ok (.getfield 18, 3) := by decide +kernel
theorem dX1_rankOf_4 : decode cX1_rankOf 4 = .ok (.iload_n 1, 1) := by decide +kernel
theorem dX1_rankOf_5 : decode cX1_rankOf 5 = .ok (.iaload, 1) := by decide +kernel
theorem dX1_rankOf_6 : decode cX1_rankOf 6 = .ok (.ireturn, 1) := by decide +kernel
theorem dX1_rank_0 : decode cX1_rank 0 = .ok (.aload_n 0, 1) := by decide +kernel
theorem dX1_rank_1 : decode cX1_rank 1 = .ok (.getfield 21, 3) := by decide +kernel
theorem dX1_rank_4 : decode cX1_rank 4 = .ok (.istore_n 1, 1) := by decide +kernel
theorem dX1_rank_5 : decode cX1_rank 5 = .ok (.iconst 0, 1) := by decide +kernel
theorem dX1_rank_6 : decode cX1_rank 6 = .ok (.istore_n 2, 1) := by decide +kernel
theorem dX1_rank_7 : decode cX1_rank 7 = .ok (.iload_n 2, 1) := by decide +kernel
theorem dX1_rank_8 : decode cX1_rank 8 = .ok (.aload_n 0, 1) := by decide +kernel
theorem dX1_rank_9 : decode cX1_rank 9 = .ok (.getfield 28, 3) := by decide +kernel
theorem dX1_rank_12 : decode cX1_rank 12 = .ok (.if_icmp .ge 23, 3) := by decide +kernel
theorem dX1_rank_15 : decode cX1_rank 15 = .ok (.aload_n 0, 1) := by decide +kernel
theorem dX1_rank_16 : decode cX1_rank 16 = .ok (.getfield 18, 3) := by decide +kernel
theorem dX1_rank_19 : decode cX1_rank 19 = .ok (.iload_n 1, 1) := by decide +kernel
theorem dX1_rank_20 : decode cX1_rank 20 = .ok (.iload_n 2, 1) := by decide +kernel
theorem dX1_rank_21 : decode cX1_rank 21 = .ok (.iastore, 1) := by decide +kernel
theorem dX1_rank_22 : decode cX1_rank 22 = .ok (.aload_n 0, 1) := by decide +kernel
theorem dX1_rank_23 : decode cX1_rank 23 = .ok (.getfield 15, 3) := by decide +kernel
theorem dX1_rank_26 : decode cX1_rank 26 = .ok (.iload_n 1, 1) := by decide +kernel
theorem dX1_rank_27 : decode cX1_rank 27 = .ok (.iaload, 1) := by decide +kernel
theorem dX1_rank_28 : decode cX1_rank 28 = .ok (.istore_n 1, 1) := by decide +kernel
theorem dX1_rank_29 : decode cX1_rank 29 = .ok (.iinc 2 1, 3) := by decide +kernel
theorem dX1_rank_32 : decode cX1_rank 32 = .ok (.goto (-25), 3) := by decide +kernel
theorem dX1_rank_35 : decode cX1_rank 35 = .ok (.return_, 1) := by decide +kernel
theorem dX1_join_0 : decode cX1_join 0 = .ok (.aload_n 0, 1) := by decide +kernel
theorem dX1_join_1 : decode cX1_join 1 = .ok (.getfield 31, 3) := by decide +kernel
theorem dX1_join_4 : decode cX1_join 4 = .ok (.istore_n 1, 1) := by decide +kernel
theorem dX1_join_5 : decode cX1_join 5 = .ok (.aload_n 0, 1) := by decide +kernel
theorem dX1_join_6 : decode cX1_join 6 = .ok (.aload_n 0, 1) := by decide +kernel
theorem dX1_join_7 : decode cX1_join 7 = .ok (.getfield 15, 3) := by decide +kernel
theorem dX1_join_10 : decode cX1_join 10 = .ok (.iload_n 1, 1) := by decide +kernel
theorem dX1_join_11 : decode cX1_join 11 = .ok (.iaload, 1) := by decide +kernel
theorem dX1_join_12 : decode cX1_join 12 = .ok (.putfield 31, 3) := by decide +kernel
theorem dX1_join_15 : decode cX1_join 15 = .ok (.aload_n 0, 1) := by decide +kernel
theorem dX1_join_16 : decode cX1_join 16 = .ok (.iload_n 1, 1) := by decide +kernel
theorem dX1_join_17 : decode cX1_join 17 = .ok (.invokevirtual 34, 3) := by decide +kernel
theorem dX1_join_20 : decode cX1_join 20 = .ok (.aload_n 0, 1) := by decide +kernel
theorem dX1_join_21 : decode cX1_join 21 = .ok (.dup, 1) := by decide +kernel
theorem dX1_join_22 : decode cX1_join 22 = .ok (.getfield 28, 3) := by decide +kernel
theorem dX1_join_25 : decode cX1_join 25 = .ok (.iconst 1, 1) := by decide +kernel
theorem dX1_join_26 : decode cX1_join 26 = .ok (.iadd, 1) := by decide +kernel
theorem dX1_join_27 : decode cX1_join 27 = .ok (.putfield 28, 3) := by decide +kernel
theorem dX1_join_30 : decode cX1_join 30 = .ok (.iload_n 1, 1) := by decide +kernel
theorem dX1_join_31 : decode cX1_join 31 = .ok (.ireturn, 1) := by decide +kernel
theorem dX1_leave_0 : decode cX1_leave 0 = .ok (.aload_n 0, 1) := by decide +kernel
theorem dX1_leave_1 : decode cX1_leave 1 = .ok (.iload_n 1, 1) := by decide +kernel
theorem dX1_leave_2 : decode cX1_leave 2 = .ok (.invokevirtual 38, 3) := by decide +kernel
theorem dX1_leave_5 : decode cX1_leave 5 = .ok (.aload_n 0, 1) := by decide +kernel
theorem dX1_leave_6 : decode cX1_leave 6 = .ok (.getfield 15, 3) := by decide +kernel
theorem dX1_leave_9 : decode cX1_leave 9 = .ok (.iload_n 1, 1) := by decide +kernel
theorem dX1_leave_10 : decode cX1_leave 10 = .ok (.aload_n 0, 1) := by decide +kernel
theorem dX1_leave_11 : decode cX1_leave 11 = .ok (.getfield 31, 3) := by decide +kernel
theorem dX1_leave_14 : decode cX1_leave 14 = .ok (.iastore, 1) := by decide +kernel
theorem dX1_leave_15 : decode cX1_leave 15 = .ok (.aload_n 0, 1) := by decide +kernel
theorem dX1_leave_16 : decode cX1_leave 16 = .ok (.iload_n 1, 1) := by decide +kernel
theorem dX1_leave_17 : decode cX1_leave 17 = .ok (.putfield 31, 3) := by decide +kernel
theorem dX1_leave_20 : decode cX1_leave 20 = .ok (.aload_n 0, 1) := by decide +kernel
theorem dX1_leave_21 : decode cX1_leave 21 = .ok (.dup, 1) := by decide +kernel
theorem dX1_leave_22 : decode cX1_leave 22 = .ok (.getfield 28, 3) := by decide +kernel
theorem dX1_leave_25 : decode cX1_leave 25 = .ok (.iconst 1, 1) := by decide +kernel
theorem dX1_leave_26 : decode cX1_leave 26 = .ok (.isub, 1) := by decide +kernel
theorem dX1_leave_27 : decode cX1_leave 27 = .ok (.putfield 28, 3) := by decide +kernel
theorem dX1_leave_30 : decode cX1_leave 30 = .ok (.return_, 1) := by decide +kernel
theorem dX1_moveToEnd_0 : decode cX1_moveToEnd 0 = .ok (.aload_n 0, 1) := by decide +kernel
theorem dX1_moveToEnd_1 : decode cX1_moveToEnd 1 = .ok (.iload_n 1, 1) := by decide +kernel
theorem dX1_moveToEnd_2 : decode cX1_moveToEnd 2 = .ok (.invokevirtual 38, 3) := by decide +kernel
theorem dX1_moveToEnd_5 : decode cX1_moveToEnd 5 = .ok (.aload_n 0, 1) := by decide +kernel
theorem dX1_moveToEnd_6 : decode cX1_moveToEnd 6 = .ok (.iload_n 1, 1) := by decide +kernel
theorem dX1_moveToEnd_7 : decode cX1_moveToEnd 7 = .ok (.invokevirtual 34, 3) := by decide +kernel
theorem dX1_moveToEnd_10 : decode cX1_moveToEnd 10 = .ok (.return_, 1) := by decide +kernel
theorem dX1_drain_0 : decode cX1_drain 0 = .ok (.aload_n 0, 1) := by decide +kernel
theorem dX1_drain_1 : decode cX1_drain 1 = .ok (.getfield 25, 3) := by decide +kernel
theorem dX1_drain_4 : decode cX1_drain 4 = .ok (.ifCond .eq 24, 3) := by decide +kernel
theorem dX1_drain_7 : decode cX1_drain 7 = .ok (.aload_n 0, 1) := by decide +kernel
theorem dX1_drain_8 : decode cX1_drain 8 = .ok (.getfield 15, 3) := by decide +kernel
theorem dX1_drain_11 : decode cX1_drain 11 = .ok (.aload_n 0, 1) := by decide +kernel
theorem dX1_drain_12 : decode cX1_drain 12 = .ok (.getfield 25, 3) := by decide +kernel
theorem dX1_drain_15 : decode cX1_drain 15 = .ok (.aload_n 0, 1) := by decide +kernel
theorem dX1_drain_16 : decode cX1_drain 16 = .ok (.getfield 31, 3) := by decide +kernel
theorem dX1_drain_19 : decode cX1_drain 19 = .ok (.iastore, 1) := by decide +kernel
theorem dX1_drain_20 : decode cX1_drain 20 = .ok (.aload_n 0, 1) := by decide +kernel
theorem dX1_drain_21 : decode cX1_drain 21 = .ok (.aload_n 0, 1) := by decide +kernel
theorem dX1_drain_22 : decode cX1_drain 22 = .ok (.getfield 21, 3) := by decide +kernel
theorem dX1_drain_25 : decode cX1_drain 25 = .ok (.putfield 31, 3) := by decide +kernel
theorem dX1_drain_28 : decode cX1_drain 28 = .ok (.aload_n 0, 1) := by decide +kernel
theorem dX1_drain_29 : decode cX1_drain 29 = .ok (.iconst 0, 1) := by decide +kernel
theorem dX1_drain_30 : decode cX1_drain 30 = .ok (.putfield 21, 3) := by decide +kernel
theorem dX1_drain_33 : decode cX1_drain 33 = .ok (.aload_n 0, 1) := by decide +kernel
theorem dX1_drain_34 : decode cX1_drain 34 = .ok (.iconst 0, 1) := by decide +kernel
theorem dX1_drain_35 : decode cX1_drain 35 = .ok (.putfield 25, 3) := by decide +kernel
theorem dX1_drain_38 : decode cX1_drain 38 = .ok (.aload_n 0, 1) := by decide +kernel
theorem dX1_drain_39 : decode cX1_drain 39 = .ok (.iconst 0, 1) := by decide +kernel
theorem dX1_drain_40 : decode cX1_drain 40 = .ok (.putfield 28, 3) := by decide +kernel
theorem dX1_drain_43 : decode cX1_drain 43 = .ok (.return_, 1) := by decide +kernel
theorem dX1_faults_0 : decode cX1_faults 0 = .ok (.iconst 0, 1) := by decide +kernel
theorem dX1_faults_1 : decode cX1_faults 1 = .ok (.istore_n 1, 1) := by decide +kernel
theorem dX1_faults_2 : decode cX1_faults 2 = .ok (.iconst 0, 1) := by decide +kernel
theorem dX1_faults_3 : decode cX1_faults 3 = .ok (.istore_n 2, 1) := by decide +kernel
theorem dX1_faults_4 : decode cX1_faults 4 = .ok (.iconst 0, 1) := by decide +kernel
theorem dX1_faults_5 : decode cX1_faults 5 = .ok (.istore_n 3, 1) := by decide +kernel
theorem dX1_faults_6 : decode cX1_faults 6 = .ok (.aload_n 0, 1) := by decide +kernel
theorem dX1_faults_7 : decode cX1_faults 7 = .ok (.getfield 21, 3) := by decide +kernel
theorem dX1_faults_10 : decode cX1_faults 10 = .ok (.istore 4, 2) := by decide +kernel
theorem dX1_faults_12 : decode cX1_faults 12 = .ok (.iload 4, 2) := by decide +kernel
theorem dX1_faults_14 : decode cX1_faults 14 = .ok (.ifCond .eq 42, 3) := by decide +kernel
theorem dX1_faults_17 : decode cX1_faults 17 = .ok (.iload_n 2, 1) := by decide +kernel
theorem dX1_faults_18 : decode cX1_faults 18 = .ok (.sipush 2002, 3) := by decide +kernel
theorem dX1_faults_21 : decode cX1_faults 21 = .ok (.if_icmp .ge 35, 3) := by decide +kernel
theorem dX1_faults_24 : decode cX1_faults 24 = .ok (.aload_n 0, 1) := by decide +kernel
theorem dX1_faults_25 : decode cX1_faults 25 = .ok (.getfield 9, 3) := by decide +kernel
theorem dX1_faults_28 : decode cX1_faults 28 = .ok (.iload 4, 2) := by decide +kernel
theorem dX1_faults_30 : decode cX1_faults 30 = .ok (.iaload, 1) := by decide +kernel
theorem dX1_faults_31 : decode cX1_faults 31 = .ok (.iload_n 3, 1) := by decide +kernel
theorem dX1_faults_32 : decode cX1_faults 32 = .ok (.if_icmp .eq 6, 3) := by decide +kernel
theorem dX1_faults_35 : decode cX1_faults 35 = .ok (.iinc 1 1, 3) := by decide +kernel
theorem dX1_faults_38 : decode cX1_faults 38 = .ok (.iload 4, 2) := by decide +kernel
theorem dX1_faults_40 : decode cX1_faults 40 = .ok (.istore_n 3, 1) := by decide +kernel
theorem dX1_faults_41 : decode cX1_faults 41 = .ok (.aload_n 0, 1) := by decide +kernel
theorem dX1_faults_42 : decode cX1_faults 42 = .ok (.getfield 15, 3) := by decide +kernel
theorem dX1_faults_45 : decode cX1_faults 45 = .ok (.iload 4, 2) := by decide +kernel
theorem dX1_faults_47 : decode cX1_faults 47 = .ok (.iaload, 1) := by decide +kernel
theorem dX1_faults_48 : decode cX1_faults 48 = .ok (.istore 4, 2) := by decide +kernel
theorem dX1_faults_50 : decode cX1_faults 50 = .ok (.iinc 2 1, 3) := by decide +kernel
theorem dX1_faults_53 : decode cX1_faults 53 = .ok (.goto (-41), 3) := by decide +kernel
theorem dX1_faults_56 : decode cX1_faults 56 = .ok (.iload_n 3, 1) := by decide +kernel
theorem dX1_faults_57 : decode cX1_faults 57 = .ok (.aload_n 0, 1) := by decide +kernel
theorem dX1_faults_58 : decode cX1_faults 58 = .ok (.getfield 25, 3) := by decide +kernel
theorem dX1_faults_61 : decode cX1_faults 61 = .ok (.if_icmp .eq 6, 3) := by decide +kernel
theorem dX1_faults_64 : decode cX1_faults 64 = .ok (.iinc 1 1, 3) := by decide +kernel
theorem dX1_faults_67 : decode cX1_faults 67 = .ok (.iload_n 2, 1) := by decide +kernel
theorem dX1_faults_68 : decode cX1_faults 68 = .ok (.aload_n 0, 1) := by decide +kernel
theorem dX1_faults_69 : decode cX1_faults 69 = .ok (.getfield 28, 3) := by decide +kernel
theorem dX1_faults_72 : decode cX1_faults 72 = .ok (.if_icmp .eq 6, 3) := by decide +kernel
theorem dX1_faults_75 : decode cX1_faults 75 = .ok (.iinc 1 1, 3) := by decide +kernel
theorem dX1_faults_78 : decode cX1_faults 78 = .ok (.iload_n 2, 1) := by decide +kernel
theorem dX1_faults_79 : decode cX1_faults 79 = .ok (.aload_n 0, 1) := by decide +kernel
theorem dX1_faults_80 : decode cX1_faults 80 = .ok (.invokevirtual 41, 3) := by decide +kernel
theorem dX1_faults_83 : decode cX1_faults 83 = .ok (.iadd, 1) := by decide +kernel
theorem dX1_faults_84 : decode cX1_faults 84 = .ok (.sipush 2001, 3) := by decide +kernel
theorem dX1_faults_87 : decode cX1_faults 87 = .ok (.if_icmp .eq 6, 3) := by decide +kernel
theorem dX1_faults_90 : decode cX1_faults 90 = .ok (.iinc 1 1, 3) := by decide +kernel
theorem dX1_faults_93 : decode cX1_faults 93 = .ok (.iload_n 1, 1) := by decide +kernel
theorem dX1_faults_94 : decode cX1_faults 94 = .ok (.ireturn, 1) := by decide +kernel
theorem dX1_freeSlots_0 : decode cX1_freeSlots 0 = .ok (.iconst 0, 1) := by decide +kernel
theorem dX1_freeSlots_1 : decode cX1_freeSlots 1 = .ok (.istore_n 1, 1) := by decide +kernel
theorem dX1_freeSlots_2 : decode cX1_freeSlots 2 = .ok (.aload_n 0, 1) := by decide +kernel
theorem dX1_freeSlots_3 : decode cX1_freeSlots 3 = .ok (.getfield 31, 3) := by decide +kernel
theorem dX1_freeSlots_6 : decode cX1_freeSlots 6 = .ok (.istore_n 2, 1) := by decide +kernel
theorem dX1_freeSlots_7 : decode cX1_freeSlots 7 = .ok (.iload_n 2, 1) := by decide +kernel
theorem dX1_freeSlots_8 : decode cX1_freeSlots 8 = .ok (.ifCond .eq 23, 3) := by decide +kernel
theorem dX1_freeSlots_11 : decode cX1_freeSlots 11 = .ok (.iload_n 1, 1) := by decide +kernel
theorem dX1_freeSlots_12 : decode cX1_freeSlots 12 = .ok (.sipush 2002, 3) := by decide +kernel
theorem dX1_freeSlots_15 : decode cX1_freeSlots 15 = .ok (.if_icmp .ge 16, 3) := by decide +kernel
theorem dX1_freeSlots_18 : decode cX1_freeSlots 18 = .ok (.aload_n 0, 1) := by decide +kernel
theorem dX1_freeSlots_19 : decode cX1_freeSlots 19 = .ok (.getfield 15, 3) := by decide +kernel
theorem dX1_freeSlots_22 : decode cX1_freeSlots 22 = .ok (.iload_n 2, 1) := by decide +kernel
theorem dX1_freeSlots_23 : decode cX1_freeSlots 23 = .ok (.iaload, 1) := by decide +kernel
theorem dX1_freeSlots_24 : decode cX1_freeSlots 24 = .ok (.istore_n 2, 1) := by decide +kernel
theorem dX1_freeSlots_25 : decode cX1_freeSlots 25 = .ok (.iinc 1 1, 3) := by decide +kernel
theorem dX1_freeSlots_28 : decode cX1_freeSlots 28 = .ok (.goto (-21), 3) := by decide +kernel
theorem dX1_freeSlots_31 : decode cX1_freeSlots 31 = .ok (.iload_n 1, 1) := by decide +kernel
theorem dX1_freeSlots_32 : decode cX1_freeSlots 32 = .ok (.ireturn, 1) := by decide +kernel
theorem dX1_append_0 : decode cX1_append 0 = .ok (.aload_n 0, 1) := by decide +kernel
theorem dX1_append_1 : decode cX1_append 1 = .ok (.getfield 9, 3) := by decide +kernel
theorem dX1_append_4 : decode cX1_append 4 = .ok (.iload_n 1, 1) := by decide +kernel
theorem dX1_append_5 : decode cX1_append 5 = .ok (.aload_n 0, 1) := by decide +kernel
theorem dX1_append_6 : decode cX1_append 6 = .ok (.getfield 25, 3) := by decide +kernel
theorem dX1_append_9 : decode cX1_append 9 = .ok (.iastore, 1) := by decide +kernel
theorem dX1_append_10 : decode cX1_append 10 = .ok (.aload_n 0, 1) := by decide +kernel
theorem dX1_append_11 : decode cX1_append 11 = .ok (.getfield 15, 3) := by decide +kernel
theorem dX1_append_14 : decode cX1_append 14 = .ok (.iload_n 1, 1) := by decide +kernel
theorem dX1_append_15 : decode cX1_append 15 = .ok (.iconst 0, 1) := by decide +kernel
theorem dX1_append_16 : decode cX1_append 16 = .ok (.iastore, 1) := by decide +kernel
theorem dX1_append_17 : decode cX1_append 17 = .ok (.aload_n 0, 1) := by decide +kernel
theorem dX1_append_18 : decode cX1_append 18 = .ok (.getfield 25, 3) := by decide +kernel
theorem dX1_append_21 : decode cX1_append 21 = .ok (.ifCond .ne 11, 3) := by decide +kernel
theorem dX1_append_24 : decode cX1_append 24 = .ok (.aload_n 0, 1) := by decide +kernel
theorem dX1_append_25 : decode cX1_append 25 = .ok (.iload_n 1, 1) := by decide +kernel
theorem dX1_append_26 : decode cX1_append 26 = .ok (.putfield 21, 3) := by decide +kernel
theorem dX1_append_29 : decode cX1_append 29 = .ok (.goto 13, 3) := by decide +kernel
theorem dX1_append_32 : decode cX1_append 32 = .ok (.aload_n 0, 1) := by decide +kernel
theorem dX1_append_33 : decode cX1_append 33 = .ok (.getfield 15, 3) := by decide +kernel
theorem dX1_append_36 : decode cX1_append 36 = .ok (.aload_n 0, 1) := by decide +kernel
theorem dX1_append_37 : decode cX1_append 37 = .ok (.getfield 25, 3) := by decide +kernel
theorem dX1_append_40 : decode cX1_append 40 = .ok (.iload_n 1, 1) := by decide +kernel
theorem dX1_append_41 : decode cX1_append 41 = .ok (.iastore, 1) := by decide +kernel
theorem dX1_append_42 : decode cX1_append 42 = .ok (.aload_n 0, 1) := by decide +kernel
theorem dX1_append_43 : decode cX1_append 43 = .ok (.iload_n 1, 1) := by decide +kernel
theorem dX1_append_44 : decode cX1_append 44 = .ok (.putfield 25, 3) := by decide +kernel
theorem dX1_append_47 : decode cX1_append 47 = .ok (.return_, 1) := by decide +kernel
theorem dX1_unlink_0 : decode cX1_unlink 0 = .ok (.aload_n 0, 1) := by decide +kernel
theorem dX1_unlink_1 : decode cX1_unlink 1 = .ok (.getfield 9, 3) := by decide +kernel
theorem dX1_unlink_4 : decode cX1_unlink 4 = .ok (.iload_n 1, 1) := by decide +kernel
theorem dX1_unlink_5 : decode cX1_unlink 5 = .ok (.iaload, 1) := by decide +kernel
theorem dX1_unlink_6 : decode cX1_unlink 6 = .ok (.istore_n 2, 1) := by decide +kernel
theorem dX1_unlink_7 : decode cX1_unlink 7 = .ok (.aload_n 0, 1) := by decide +kernel
theorem dX1_unlink_8 : decode cX1_unlink 8 = .ok (.getfield 15, 3) := by decide +kernel
theorem dX1_unlink_11 : decode cX1_unlink 11 = .ok (.iload_n 1, 1) := by decide +kernel
theorem dX1_unlink_12 : decode cX1_unlink 12 = .ok (.iaload, 1) := by decide +kernel
theorem dX1_unlink_13 : decode cX1_unlink 13 = .ok (.istore_n 3, 1) := by decide +kernel
theorem dX1_unlink_14 : decode cX1_unlink 14 = .ok (.iload_n 2, 1) := by decide +kernel
theorem dX1_unlink_15 : decode cX1_unlink 15 = .ok (.ifCond .ne 11, 3) := by decide +kernel
theorem dX1_unlink_18 : decode cX1_unlink 18 = .ok (.aload_n 0, 1) := by decide +kernel
theorem dX1_unlink_19 : decode cX1_unlink 19 = .ok (.iload_n 3, 1) := by decide +kernel
theorem dX1_unlink_20 : decode cX1_unlink 20 = .ok (.putfield 21, 3) := by decide +kernel
theorem dX1_unlink_23 : decode cX1_unlink 23 = .ok (.goto 10, 3) := by decide +kernel
theorem dX1_unlink_26 : decode cX1_unlink 26 = .ok (.aload_n 0, 1) := by decide +kernel
theorem dX1_unlink_27 : decode cX1_unlink 27 = .ok (.getfield 15, 3) := by decide +kernel
theorem dX1_unlink_30 : decode cX1_unlink 30 = .ok (.iload_n 2, 1) := by decide +kernel
theorem dX1_unlink_31 : decode cX1_unlink 31 = .ok (.iload_n 3, 1) := by decide +kernel
theorem dX1_unlink_32 : decode cX1_unlink 32 = .ok (.iastore, 1) := by decide +kernel
theorem dX1_unlink_33 : decode cX1_unlink 33 = .ok (.iload_n 3, 1) := by decide +kernel
theorem dX1_unlink_34 : decode cX1_unlink 34 = .ok (.ifCond .ne 11, 3) := by decide +kernel
theorem dX1_unlink_37 : decode cX1_unlink 37 = .ok (.aload_n 0, 1) := by decide +kernel
theorem dX1_unlink_38 : decode cX1_unlink 38 = .ok (.iload_n 2, 1) := by decide +kernel
theorem dX1_unlink_39 : decode cX1_unlink 39 = .ok (.putfield 25, 3) := by decide +kernel
theorem dX1_unlink_42 : decode cX1_unlink 42 = .ok (.goto 10, 3) := by decide +kernel
theorem dX1_unlink_45 : decode cX1_unlink 45 = .ok (.aload_n 0, 1) := by decide +kernel
theorem dX1_unlink_46 : decode cX1_unlink 46 = .ok (.getfield 9, 3) := by decide +kernel
theorem dX1_unlink_49 : decode cX1_unlink 49 = .ok (.iload_n 3, 1) := by decide +kernel
theorem dX1_unlink_50 : decode cX1_unlink 50 = .ok (.iload_n 2, 1) := by decide +kernel
theorem dX1_unlink_51 : decode cX1_unlink 51 = .ok (.iastore, 1) := by decide +kernel
theorem dX1_unlink_52 : decode cX1_unlink 52 = .ok (.return_, 1) := by decide +kernel
end
section
abbrev R_Ln_count : Room := { frames := 0, cells := 0, slots := 0, locals := 0 }
set_option maxHeartbeats 4000000 in
set_option maxRecDepth 100000 in
theorem c_Ln_count (ad : Nat → Nat) (cA : ClassId) (s : zT) : xct cA yX1_count cX1_count 1 (some .int) R_Ln_count [.ref (ad 2)] (wd ad cA s) (some (.int (s.2 4 2))) (wd ad cA (s)) := by
  refine xct_of (own := RX1) (by decide) rfl (Nat.le_of_ble_eq_true rfl) (fun X hX => ?_)
  show xs X cA RX1 cX1_count 1 (some .int) R_Ln_count (wd ad cA s) 0 0 0 [(0, .ref (ad 2))] []
  refine xs_aload_n 0 dX1_count_0 rfl ?_
  refine g_Ln_count dX1_count_1 ?_
  exact xs_iret hX rfl dX1_count_4 rfl rfl
theorem k_Ln_count {X : xz_X} {cA : ClassId} {own : String} {ad : Nat → Nat} {cc : ByteArray} {nL : Nat} {ret : Option FieldType} {R : Room} {s : zT} {pc ix : Nat} {L : List (Nat × Value)} {st : List Value} (d : decode cc pc = .ok (.invokevirtual ix, 3)) (hw : xwV own ix yX1_count cX1_count 1 (some .int) 0) (hR : xroom R_Ln_count 1 R) (hst : (st.map fun v => v.category).sum ≤ 8) (kk : xs X cA own cc nL ret R (wd ad cA (s)) 0 0 (pc + 3) L (.int (s.2 4 2) :: st)) : xs X cA own cc nL ret R (wd ad cA s) 0 0 pc L (.ref (ad 2) :: st) :=
  xs_call 2 (c_Ln_count ad cA s) rfl rfl d hw hR rfl rfl rfl hst ⟨Nat.zero_le _, Nat.zero_le _⟩ kk
abbrev R_Ln_first : Room := { frames := 0, cells := 0, slots := 0, locals := 0 }
set_option maxHeartbeats 4000000 in
set_option maxRecDepth 100000 in
theorem c_Ln_first (ad : Nat → Nat) (cA : ClassId) (s : zT) : xct cA yX1_first cX1_first 1 (some .int) R_Ln_first [.ref (ad 2)] (wd ad cA s) (some (.int (zs (s.1 9 0)))) (wd ad cA (s)) := by
  refine xct_of (own := RX1) (by decide) rfl (Nat.le_of_ble_eq_true rfl) (fun X hX => ?_)
  show xs X cA RX1 cX1_first 1 (some .int) R_Ln_first (wd ad cA s) 0 0 0 [(0, .ref (ad 2))] []
  refine xs_aload_n 0 dX1_first_0 rfl ?_
  refine g_Ln_first dX1_first_1 ?_
  exact xs_iret hX rfl dX1_first_4 rfl rfl
theorem k_Ln_first {X : xz_X} {cA : ClassId} {own : String} {ad : Nat → Nat} {cc : ByteArray} {nL : Nat} {ret : Option FieldType} {R : Room} {s : zT} {pc ix : Nat} {L : List (Nat × Value)} {st : List Value} (d : decode cc pc = .ok (.invokevirtual ix, 3)) (hw : xwV own ix yX1_first cX1_first 1 (some .int) 0) (hR : xroom R_Ln_first 1 R) (hst : (st.map fun v => v.category).sum ≤ 8) (kk : xs X cA own cc nL ret R (wd ad cA (s)) 0 0 (pc + 3) L (.int (zs (s.1 9 0)) :: st)) : xs X cA own cc nL ret R (wd ad cA s) 0 0 pc L (.ref (ad 2) :: st) :=
  xs_call 2 (c_Ln_first ad cA s) rfl rfl d hw hR rfl rfl rfl hst ⟨Nat.zero_le _, Nat.zero_le _⟩ kk
abbrev R_Ln_behind : Room := { frames := 0, cells := 0, slots := 0, locals := 0 }
set_option maxHeartbeats 4000000 in
set_option maxRecDepth 100000 in
theorem c_Ln_behind (ad : Nat → Nat) (cA : ClassId) (s : zT) (a : zS) : xct cA yX1_behind cX1_behind 2 (some .int) R_Ln_behind [.ref (ad 2), .int (zs a)] (wd ad cA s) (some (.int (zs (s.1 1 a)))) (wd ad cA (s)) := by
  refine xct_of (own := RX1) (by decide) rfl (Nat.le_of_ble_eq_true rfl) (fun X hX => ?_)
  show xs X cA RX1 cX1_behind 2 (some .int) R_Ln_behind (wd ad cA s) 0 0 0 [(0, .ref (ad 2)), (1, .int (zs a))] []
  refine xs_aload_n 0 dX1_behind_0 rfl ?_
  refine g_Ln_behind dX1_behind_1 ?_
  refine xs_iload_n 1 dX1_behind_4 rfl ?_
  refine al_S1 dX1_behind_5 ?_
  exact xs_iret hX rfl dX1_behind_6 rfl rfl
theorem k_Ln_behind {X : xz_X} {cA : ClassId} {own : String} {ad : Nat → Nat} {cc : ByteArray} {nL : Nat} {ret : Option FieldType} {R : Room} {s : zT} {pc ix : Nat} {L : List (Nat × Value)} {st : List Value} {a : zS} (d : decode cc pc = .ok (.invokevirtual ix, 3)) (hw : xwV own ix yX1_behind cX1_behind 2 (some .int) 1) (hR : xroom R_Ln_behind 2 R) (hst : (st.map fun v => v.category).sum ≤ 8) (kk : xs X cA own cc nL ret R (wd ad cA (s)) 0 0 (pc + 3) L (.int (zs (s.1 1 a)) :: st)) : xs X cA own cc nL ret R (wd ad cA s) 0 0 pc L (.int (zs a) :: .ref (ad 2) :: st) :=
  xs_call 2 (c_Ln_behind ad cA s a) rfl rfl d hw hR rfl rfl rfl hst ⟨Nat.zero_le _, Nat.zero_le _⟩ kk
abbrev R_Ln_rankOf : Room := { frames := 0, cells := 0, slots := 0, locals := 0 }
set_option maxHeartbeats 4000000 in
set_option maxRecDepth 100000 in
theorem c_Ln_rankOf (ad : Nat → Nat) (cA : ClassId) (s : zT) (a : zS) : xct cA yX1_rankOf cX1_rankOf 2 (some .int) R_Ln_rankOf [.ref (ad 2), .int (zs a)] (wd ad cA s) (some (.int (s.2 2 a))) (wd ad cA (s)) := by
  refine xct_of (own := RX1) (by decide) rfl (Nat.le_of_ble_eq_true rfl) (fun X hX => ?_)
  show xs X cA RX1 cX1_rankOf 2 (some .int) R_Ln_rankOf (wd ad cA s) 0 0 0 [(0, .ref (ad 2)), (1, .int (zs a))] []
  refine xs_aload_n 0 dX1_rankOf_0 rfl ?_
  refine g_Ln_ranks dX1_rankOf_1 ?_
  refine xs_iload_n 1 dX1_rankOf_4 rfl ?_
  refine al_I2 dX1_rankOf_5 ?_
  exact xs_iret hX rfl dX1_rankOf_6 rfl rfl
theorem k_Ln_rankOf {X : xz_X} {cA : ClassId} {own : String} {ad : Nat → Nat} {cc : ByteArray} {nL : Nat} {ret : Option FieldType} {R : Room} {s : zT} {pc ix : Nat} {L : List (Nat × Value)} {st : List Value} {a : zS} (d : decode cc pc = .ok (.invokevirtual ix, 3)) (hw : xwV own ix yX1_rankOf cX1_rankOf 2 (some .int) 1) (hR : xroom R_Ln_rankOf 2 R) (hst : (st.map fun v => v.category).sum ≤ 8) (kk : xs X cA own cc nL ret R (wd ad cA (s)) 0 0 (pc + 3) L (.int (s.2 2 a) :: st)) : xs X cA own cc nL ret R (wd ad cA s) 0 0 pc L (.int (zs a) :: .ref (ad 2) :: st) :=
  xs_call 2 (c_Ln_rankOf ad cA s a) rfl rfl d hw hR rfl rfl rfl hst ⟨Nat.zero_le _, Nat.zero_le _⟩ kk
abbrev R_Ln_append : Room := { frames := 0, cells := 0, slots := 0, locals := 0 }
set_option maxHeartbeats 4000000 in
set_option maxRecDepth 100000 in
theorem c_Ln_append (ad : Nat → Nat) (cA : ClassId) (s : zT) (a : zS) : xct cA yX1_append cX1_append 2 none R_Ln_append [.ref (ad 2), .int (zs a)] (wd ad cA s) none (wd ad cA (mLn_append s a)) := by
  refine xct_of (own := RX1) (by decide) rfl (Nat.le_of_ble_eq_true rfl) (fun X hX => ?_)
  show xs X cA RX1 cX1_append 2 none R_Ln_append (wd ad cA s) 0 0 0 [(0, .ref (ad 2)), (1, .int (zs a))] []
  refine xs_aload_n 0 dX1_append_0 rfl ?_
  refine g_Ln_before dX1_append_1 ?_
  refine xs_iload_n 1 dX1_append_4 rfl ?_
  refine xs_aload_n 0 dX1_append_5 rfl ?_
  refine g_Ln_last dX1_append_6 ?_
  refine as_S0 dX1_append_9 ?_
  refine xs_aload_n 0 dX1_append_10 rfl ?_
  refine g_Ln_behind dX1_append_11 ?_
  refine xs_iload_n 1 dX1_append_14 rfl ?_
  refine xs_iconst (v := zs 0) dX1_append_15 rfl ?_
  refine as_S1 dX1_append_16 ?_
  refine xs_aload_n 0 dX1_append_17 rfl ?_
  refine g_Ln_last dX1_append_18 ?_
  refine xs_sif_ne (t := 32) dX1_append_21 (by decide) (fun c21 => ?_) (fun c21 => ?_)
  · refine xs_aload_n 0 dX1_append_32 rfl ?_
    refine g_Ln_behind dX1_append_33 ?_
    refine xs_aload_n 0 dX1_append_36 rfl ?_
    refine g_Ln_last dX1_append_37 ?_
    refine xs_iload_n 1 dX1_append_40 rfl ?_
    refine as_S1 dX1_append_41 ?_
    refine xs_aload_n 0 dX1_append_42 rfl ?_
    refine xs_iload_n 1 dX1_append_43 rfl ?_
    refine p_Ln_last dX1_append_44 ?_
    exact xs_vret hX rfl dX1_append_47 (by simp only [mLn_append, if_neg c21])
  · refine xs_aload_n 0 dX1_append_24 rfl ?_
    refine xs_iload_n 1 dX1_append_25 rfl ?_
    refine p_Ln_first dX1_append_26 ?_
    refine xs_goto (t := 42) dX1_append_29 (by decide) ?_
    refine xs_aload_n 0 dX1_append_42 rfl ?_
    refine xs_iload_n 1 dX1_append_43 rfl ?_
    refine p_Ln_last dX1_append_44 ?_
    exact xs_vret hX rfl dX1_append_47 (by simp only [mLn_append, if_pos c21])
theorem k_Ln_append {X : xz_X} {cA : ClassId} {own : String} {ad : Nat → Nat} {cc : ByteArray} {nL : Nat} {ret : Option FieldType} {R : Room} {s : zT} {pc ix : Nat} {L : List (Nat × Value)} {st : List Value} {a : zS} (d : decode cc pc = .ok (.invokevirtual ix, 3)) (hw : xwV own ix yX1_append cX1_append 2 none 1) (hR : xroom R_Ln_append 2 R) (hst : (st.map fun v => v.category).sum ≤ 8) (kk : xs X cA own cc nL ret R (wd ad cA (mLn_append s a)) 0 0 (pc + 3) L (st)) : xs X cA own cc nL ret R (wd ad cA s) 0 0 pc L (.int (zs a) :: .ref (ad 2) :: st) :=
  xs_call 2 (c_Ln_append ad cA s a) rfl rfl d hw hR rfl rfl rfl hst ⟨Nat.zero_le _, Nat.zero_le _⟩ kk
abbrev R_Ln_unlink : Room := { frames := 0, cells := 0, slots := 0, locals := 0 }
set_option maxHeartbeats 4000000 in
set_option maxRecDepth 100000 in
theorem c_Ln_unlink (ad : Nat → Nat) (cA : ClassId) (s : zT) (a : zS) : xct cA yX1_unlink cX1_unlink 4 none R_Ln_unlink [.ref (ad 2), .int (zs a)] (wd ad cA s) none (wd ad cA (mLn_unlink s a)) := by
  refine xct_of (own := RX1) (by decide) rfl (Nat.le_of_ble_eq_true rfl) (fun X hX => ?_)
  show xs X cA RX1 cX1_unlink 4 none R_Ln_unlink (wd ad cA s) 0 0 0 [(0, .ref (ad 2)), (1, .int (zs a))] []
  refine xs_aload_n 0 dX1_unlink_0 rfl ?_
  refine g_Ln_before dX1_unlink_1 ?_
  refine xs_iload_n 1 dX1_unlink_4 rfl ?_
  refine al_S0 dX1_unlink_5 ?_
  refine xs_istore_n (L' := [(2, _), (0, _), (1, _)]) dX1_unlink_6 (by decide) rfl ?_
  refine xs_aload_n 1 dX1_unlink_7 rfl ?_
  refine g_Ln_behind dX1_unlink_8 ?_
  refine xs_iload_n 2 dX1_unlink_11 rfl ?_
  refine al_S1 dX1_unlink_12 ?_
  refine xs_istore_n (L' := [(3, _), (2, _), (0, _), (1, _)]) dX1_unlink_13 (by decide) rfl ?_
  refine xs_iload_n 1 dX1_unlink_14 rfl ?_
  refine xs_sif_ne (t := 26) dX1_unlink_15 (by decide) (fun c15 => ?_) (fun c15 => ?_)
  · refine xs_aload_n 2 dX1_unlink_26 rfl ?_
    refine g_Ln_behind dX1_unlink_27 ?_
    refine xs_iload_n 1 dX1_unlink_30 rfl ?_
    refine xs_iload_n 0 dX1_unlink_31 rfl ?_
    refine as_S1 dX1_unlink_32 ?_
    refine xs_iload_n 0 dX1_unlink_33 rfl ?_
    refine xs_sif_ne (t := 45) dX1_unlink_34 (by decide) (fun c34 => ?_) (fun c34 => ?_)
    · refine xs_aload_n 2 dX1_unlink_45 rfl ?_
      refine g_Ln_before dX1_unlink_46 ?_
      refine xs_iload_n 0 dX1_unlink_49 rfl ?_
      refine xs_iload_n 1 dX1_unlink_50 rfl ?_
      refine as_S0 dX1_unlink_51 ?_
      exact xs_vret hX rfl dX1_unlink_52 (by simp only [mLn_unlink, if_neg c15, if_neg c34])
    · refine xs_aload_n 2 dX1_unlink_37 rfl ?_
      refine xs_iload_n 1 dX1_unlink_38 rfl ?_
      refine p_Ln_last dX1_unlink_39 ?_
      refine xs_goto (t := 52) dX1_unlink_42 (by decide) ?_
      exact xs_vret hX rfl dX1_unlink_52 (by simp only [mLn_unlink, if_neg c15, if_pos c34])
  · refine xs_aload_n 2 dX1_unlink_18 rfl ?_
    refine xs_iload_n 0 dX1_unlink_19 rfl ?_
    refine p_Ln_first dX1_unlink_20 ?_
    refine xs_goto (t := 33) dX1_unlink_23 (by decide) ?_
    refine xs_iload_n 0 dX1_unlink_33 rfl ?_
    refine xs_sif_ne (t := 45) dX1_unlink_34 (by decide) (fun c34 => ?_) (fun c34 => ?_)
    · refine xs_aload_n 2 dX1_unlink_45 rfl ?_
      refine g_Ln_before dX1_unlink_46 ?_
      refine xs_iload_n 0 dX1_unlink_49 rfl ?_
      refine xs_iload_n 1 dX1_unlink_50 rfl ?_
      refine as_S0 dX1_unlink_51 ?_
      exact xs_vret hX rfl dX1_unlink_52 (by simp only [mLn_unlink, if_pos c15, if_neg c34])
    · refine xs_aload_n 2 dX1_unlink_37 rfl ?_
      refine xs_iload_n 1 dX1_unlink_38 rfl ?_
      refine p_Ln_last dX1_unlink_39 ?_
      refine xs_goto (t := 52) dX1_unlink_42 (by decide) ?_
      exact xs_vret hX rfl dX1_unlink_52 (by simp only [mLn_unlink, if_pos c15, if_pos c34])
theorem k_Ln_unlink {X : xz_X} {cA : ClassId} {own : String} {ad : Nat → Nat} {cc : ByteArray} {nL : Nat} {ret : Option FieldType} {R : Room} {s : zT} {pc ix : Nat} {L : List (Nat × Value)} {st : List Value} {a : zS} (d : decode cc pc = .ok (.invokevirtual ix, 3)) (hw : xwV own ix yX1_unlink cX1_unlink 4 none 1) (hR : xroom R_Ln_unlink 4 R) (hst : (st.map fun v => v.category).sum ≤ 8) (kk : xs X cA own cc nL ret R (wd ad cA (mLn_unlink s a)) 0 0 (pc + 3) L (st)) : xs X cA own cc nL ret R (wd ad cA s) 0 0 pc L (.int (zs a) :: .ref (ad 2) :: st) :=
  xs_call 2 (c_Ln_unlink ad cA s a) rfl rfl d hw hR rfl rfl rfl hst ⟨Nat.zero_le _, Nat.zero_le _⟩ kk
abbrev R_Ln_join : Room := { frames := 1, cells := 0, slots := 0, locals := 21 }
set_option maxRecDepth 100000 in
theorem kw_Ln_Ln_append : xwV RX1 34 yX1_append cX1_append 2 none 1 := ⟨⟨xt_of (List.mem_of_getElem? (i := 419) rfl) rfl, xt_of (by decide +kernel) rfl, xt_of (by decide +kernel) rfl, by decide +kernel⟩, xt_of (by decide +kernel) rfl, xt_of (by decide +kernel) rfl⟩
set_option maxHeartbeats 4000000 in
set_option maxRecDepth 100000 in
theorem c_Ln_join (ad : Nat → Nat) (cA : ClassId) (s : zT) : xct cA yX1_join cX1_join 2 (some .int) R_Ln_join [.ref (ad 2)] (wd ad cA s) (some (.int (zs ((mLn_join s).1)))) (wd ad cA ((mLn_join s).2)) := by
  refine xct_of (own := RX1) (by decide) rfl (Nat.le_of_ble_eq_true rfl) (fun X hX => ?_)
  show xs X cA RX1 cX1_join 2 (some .int) R_Ln_join (wd ad cA s) 0 0 0 [(0, .ref (ad 2))] []
  refine xs_aload_n 0 dX1_join_0 rfl ?_
  refine g_Ln_free dX1_join_1 ?_
  refine xs_istore_n (L' := [(1, _), (0, _)]) dX1_join_4 (by decide) rfl ?_
  refine xs_aload_n 1 dX1_join_5 rfl ?_
  refine xs_aload_n 1 dX1_join_6 rfl ?_
  refine g_Ln_behind dX1_join_7 ?_
  refine xs_iload_n 0 dX1_join_10 rfl ?_
  refine al_S1 dX1_join_11 ?_
  refine p_Ln_free dX1_join_12 ?_
  refine xs_aload_n 1 dX1_join_15 rfl ?_
  refine xs_iload_n 0 dX1_join_16 rfl ?_
  refine k_Ln_append dX1_join_17 kw_Ln_Ln_append (by decide) (Nat.le_of_ble_eq_true rfl) ?_
  refine xs_aload_n 1 dX1_join_20 rfl ?_
  refine xs_dup dX1_join_21 rfl ?_
  refine g_Ln_count dX1_join_22 ?_
  refine xs_iconst (v := 1) dX1_join_25 (by decide) ?_
  refine xs_iadd dX1_join_26 ?_
  refine p_Ln_count dX1_join_27 ?_
  refine xs_iload_n 0 dX1_join_30 rfl ?_
  exact xs_iret hX rfl dX1_join_31 rfl rfl
theorem k_Ln_join {X : xz_X} {cA : ClassId} {own : String} {ad : Nat → Nat} {cc : ByteArray} {nL : Nat} {ret : Option FieldType} {R : Room} {s : zT} {pc ix : Nat} {L : List (Nat × Value)} {st : List Value} (d : decode cc pc = .ok (.invokevirtual ix, 3)) (hw : xwV own ix yX1_join cX1_join 2 (some .int) 0) (hR : xroom R_Ln_join 2 R) (hst : (st.map fun v => v.category).sum ≤ 8) (kk : xs X cA own cc nL ret R (wd ad cA ((mLn_join s).2)) 0 0 (pc + 3) L (.int (zs ((mLn_join s).1)) :: st)) : xs X cA own cc nL ret R (wd ad cA s) 0 0 pc L (.ref (ad 2) :: st) :=
  xs_call 2 (c_Ln_join ad cA s) rfl rfl d hw hR rfl rfl rfl hst ⟨Nat.zero_le _, Nat.zero_le _⟩ kk
abbrev R_Ln_leave : Room := { frames := 1, cells := 0, slots := 0, locals := 23 }
set_option maxRecDepth 100000 in
theorem kw_Ln_Ln_unlink : xwV RX1 38 yX1_unlink cX1_unlink 4 none 1 := ⟨⟨xt_of (List.mem_of_getElem? (i := 492) rfl) rfl, xt_of (by decide +kernel) rfl, xt_of (by decide +kernel) rfl, by decide +kernel⟩, xt_of (by decide +kernel) rfl, xt_of (by decide +kernel) rfl⟩
set_option maxHeartbeats 4000000 in
set_option maxRecDepth 100000 in
theorem c_Ln_leave (ad : Nat → Nat) (cA : ClassId) (s : zT) (a : zS) : xct cA yX1_leave cX1_leave 2 none R_Ln_leave [.ref (ad 2), .int (zs a)] (wd ad cA s) none (wd ad cA (mLn_leave s a)) := by
  refine xct_of (own := RX1) (by decide) rfl (Nat.le_of_ble_eq_true rfl) (fun X hX => ?_)
  show xs X cA RX1 cX1_leave 2 none R_Ln_leave (wd ad cA s) 0 0 0 [(0, .ref (ad 2)), (1, .int (zs a))] []
  refine xs_aload_n 0 dX1_leave_0 rfl ?_
  refine xs_iload_n 1 dX1_leave_1 rfl ?_
  refine k_Ln_unlink dX1_leave_2 kw_Ln_Ln_unlink (by decide) (Nat.le_of_ble_eq_true rfl) ?_
  refine xs_aload_n 0 dX1_leave_5 rfl ?_
  refine g_Ln_behind dX1_leave_6 ?_
  refine xs_iload_n 1 dX1_leave_9 rfl ?_
  refine xs_aload_n 0 dX1_leave_10 rfl ?_
  refine g_Ln_free dX1_leave_11 ?_
  refine as_S1 dX1_leave_14 ?_
  refine xs_aload_n 0 dX1_leave_15 rfl ?_
  refine xs_iload_n 1 dX1_leave_16 rfl ?_
  refine p_Ln_free dX1_leave_17 ?_
  refine xs_aload_n 0 dX1_leave_20 rfl ?_
  refine xs_dup dX1_leave_21 rfl ?_
  refine g_Ln_count dX1_leave_22 ?_
  refine xs_iconst (v := 1) dX1_leave_25 (by decide) ?_
  refine xs_isub dX1_leave_26 ?_
  refine p_Ln_count dX1_leave_27 ?_
  exact xs_vret hX rfl dX1_leave_30 rfl
theorem k_Ln_leave {X : xz_X} {cA : ClassId} {own : String} {ad : Nat → Nat} {cc : ByteArray} {nL : Nat} {ret : Option FieldType} {R : Room} {s : zT} {pc ix : Nat} {L : List (Nat × Value)} {st : List Value} {a : zS} (d : decode cc pc = .ok (.invokevirtual ix, 3)) (hw : xwV own ix yX1_leave cX1_leave 2 none 1) (hR : xroom R_Ln_leave 2 R) (hst : (st.map fun v => v.category).sum ≤ 8) (kk : xs X cA own cc nL ret R (wd ad cA (mLn_leave s a)) 0 0 (pc + 3) L (st)) : xs X cA own cc nL ret R (wd ad cA s) 0 0 pc L (.int (zs a) :: .ref (ad 2) :: st) :=
  xs_call 2 (c_Ln_leave ad cA s a) rfl rfl d hw hR rfl rfl rfl hst ⟨Nat.zero_le _, Nat.zero_le _⟩ kk
abbrev R_Ln_toEnd : Room := { frames := 1, cells := 0, slots := 0, locals := 23 }
set_option maxHeartbeats 4000000 in
set_option maxRecDepth 100000 in
theorem c_Ln_toEnd (ad : Nat → Nat) (cA : ClassId) (s : zT) (a : zS) : xct cA yX1_moveToEnd cX1_moveToEnd 2 none R_Ln_toEnd [.ref (ad 2), .int (zs a)] (wd ad cA s) none (wd ad cA (mLn_toEnd s a)) := by
  refine xct_of (own := RX1) (by decide) rfl (Nat.le_of_ble_eq_true rfl) (fun X hX => ?_)
  show xs X cA RX1 cX1_moveToEnd 2 none R_Ln_toEnd (wd ad cA s) 0 0 0 [(0, .ref (ad 2)), (1, .int (zs a))] []
  refine xs_aload_n 0 dX1_moveToEnd_0 rfl ?_
  refine xs_iload_n 1 dX1_moveToEnd_1 rfl ?_
  refine k_Ln_unlink dX1_moveToEnd_2 kw_Ln_Ln_unlink (by decide) (Nat.le_of_ble_eq_true rfl) ?_
  refine xs_aload_n 0 dX1_moveToEnd_5 rfl ?_
  refine xs_iload_n 1 dX1_moveToEnd_6 rfl ?_
  refine k_Ln_append dX1_moveToEnd_7 kw_Ln_Ln_append (by decide) (Nat.le_of_ble_eq_true rfl) ?_
  exact xs_vret hX rfl dX1_moveToEnd_10 rfl
theorem k_Ln_toEnd {X : xz_X} {cA : ClassId} {own : String} {ad : Nat → Nat} {cc : ByteArray} {nL : Nat} {ret : Option FieldType} {R : Room} {s : zT} {pc ix : Nat} {L : List (Nat × Value)} {st : List Value} {a : zS} (d : decode cc pc = .ok (.invokevirtual ix, 3)) (hw : xwV own ix yX1_moveToEnd cX1_moveToEnd 2 none 1) (hR : xroom R_Ln_toEnd 2 R) (hst : (st.map fun v => v.category).sum ≤ 8) (kk : xs X cA own cc nL ret R (wd ad cA (mLn_toEnd s a)) 0 0 (pc + 3) L (st)) : xs X cA own cc nL ret R (wd ad cA s) 0 0 pc L (.int (zs a) :: .ref (ad 2) :: st) :=
  xs_call 2 (c_Ln_toEnd ad cA s a) rfl rfl d hw hR rfl rfl rfl hst ⟨Nat.zero_le _, Nat.zero_le _⟩ kk
abbrev R_Ln_drain : Room := { frames := 0, cells := 0, slots := 0, locals := 0 }
set_option maxHeartbeats 4000000 in
set_option maxRecDepth 100000 in
theorem c_Ln_drain (ad : Nat → Nat) (cA : ClassId) (s : zT) : xct cA yX1_drain cX1_drain 1 none R_Ln_drain [.ref (ad 2)] (wd ad cA s) none (wd ad cA (mLn_drain s)) := by
  refine xct_of (own := RX1) (by decide) rfl (Nat.le_of_ble_eq_true rfl) (fun X hX => ?_)
  show xs X cA RX1 cX1_drain 1 none R_Ln_drain (wd ad cA s) 0 0 0 [(0, .ref (ad 2))] []
  refine xs_aload_n 0 dX1_drain_0 rfl ?_
  refine g_Ln_last dX1_drain_1 ?_
  refine xs_sif_eq (t := 28) dX1_drain_4 (by decide) (fun c4 => ?_) (fun c4 => ?_)
  · refine xs_aload_n 0 dX1_drain_28 rfl ?_
    refine xs_iconst (v := zs 0) dX1_drain_29 rfl ?_
    refine p_Ln_first dX1_drain_30 ?_
    refine xs_aload_n 0 dX1_drain_33 rfl ?_
    refine xs_iconst (v := zs 0) dX1_drain_34 rfl ?_
    refine p_Ln_last dX1_drain_35 ?_
    refine xs_aload_n 0 dX1_drain_38 rfl ?_
    refine xs_iconst (v := 0) dX1_drain_39 (by decide) ?_
    refine p_Ln_count dX1_drain_40 ?_
    exact xs_vret hX rfl dX1_drain_43 (by simp only [mLn_drain, if_pos c4])
  · refine xs_aload_n 0 dX1_drain_7 rfl ?_
    refine g_Ln_behind dX1_drain_8 ?_
    refine xs_aload_n 0 dX1_drain_11 rfl ?_
    refine g_Ln_last dX1_drain_12 ?_
    refine xs_aload_n 0 dX1_drain_15 rfl ?_
    refine g_Ln_free dX1_drain_16 ?_
    refine as_S1 dX1_drain_19 ?_
    refine xs_aload_n 0 dX1_drain_20 rfl ?_
    refine xs_aload_n 0 dX1_drain_21 rfl ?_
    refine g_Ln_first dX1_drain_22 ?_
    refine p_Ln_free dX1_drain_25 ?_
    refine xs_aload_n 0 dX1_drain_28 rfl ?_
    refine xs_iconst (v := zs 0) dX1_drain_29 rfl ?_
    refine p_Ln_first dX1_drain_30 ?_
    refine xs_aload_n 0 dX1_drain_33 rfl ?_
    refine xs_iconst (v := zs 0) dX1_drain_34 rfl ?_
    refine p_Ln_last dX1_drain_35 ?_
    refine xs_aload_n 0 dX1_drain_38 rfl ?_
    refine xs_iconst (v := 0) dX1_drain_39 (by decide) ?_
    refine p_Ln_count dX1_drain_40 ?_
    exact xs_vret hX rfl dX1_drain_43 (by simp only [mLn_drain, if_neg c4])
theorem k_Ln_drain {X : xz_X} {cA : ClassId} {own : String} {ad : Nat → Nat} {cc : ByteArray} {nL : Nat} {ret : Option FieldType} {R : Room} {s : zT} {pc ix : Nat} {L : List (Nat × Value)} {st : List Value} (d : decode cc pc = .ok (.invokevirtual ix, 3)) (hw : xwV own ix yX1_drain cX1_drain 1 none 0) (hR : xroom R_Ln_drain 1 R) (hst : (st.map fun v => v.category).sum ≤ 8) (kk : xs X cA own cc nL ret R (wd ad cA (mLn_drain s)) 0 0 (pc + 3) L (st)) : xs X cA own cc nL ret R (wd ad cA s) 0 0 pc L (.ref (ad 2) :: st) :=
  xs_call 2 (c_Ln_drain ad cA s) rfl rfl d hw hR rfl rfl rfl hst ⟨Nat.zero_le _, Nat.zero_le _⟩ kk
abbrev R_Ln_rank : Room := { frames := 0, cells := 0, slots := 0, locals := 0 }
set_option maxHeartbeats 4000000 in
set_option maxRecDepth 100000 in
theorem t_Ln_rank {X : xz_X} {ad : Nat → Nat} {cA : ClassId} : ∀ (n i : Nat) (a : zS) (s : zT), i + n = (s.2 4 2).toNatClampNeg → xfin X cA 0 0 none (wd ad cA (mLn_rankL n i a s)) → xs X cA RX1 cX1_rank 3 none R_Ln_rank (wd ad cA s) 0 0 7 [(2, .int (nI i)), (1, .int (zs a)), (0, .ref (ad 2))] [] := by
  intro n
  induction n with
  | zero =>
    intro i a s hi hX
    refine xs_iload_n 0 dX1_rank_7 rfl ?_
    refine xs_aload_n 2 dX1_rank_8 rfl ?_
    refine g_Ln_count dX1_rank_9 ?_
    refine xs_icmp_ge (t := 35) dX1_rank_12 (by decide) (fun c12 => ?_) (fun c12 => ?_)
    · exact xs_vret hX rfl dX1_rank_35 rfl
    · exact absurd (cnt_le (by omega) (by have := cnt_lt31 (s.2 4 2); omega)) c12
  | succ n ih =>
    intro i a s hi hX
    refine xs_iload_n 0 dX1_rank_7 rfl ?_
    refine xs_aload_n 2 dX1_rank_8 rfl ?_
    refine g_Ln_count dX1_rank_9 ?_
    refine xs_icmp_ge (t := 35) dX1_rank_12 (by decide) (fun c12 => ?_) (fun c12 => ?_)
    · exact absurd c12 (cnt_nle (by omega))
    · refine xs_aload_n 2 dX1_rank_15 rfl ?_
      refine g_Ln_ranks dX1_rank_16 ?_
      refine xs_iload_n 1 dX1_rank_19 rfl ?_
      refine xs_iload_n 0 dX1_rank_20 rfl ?_
      refine as_I2 dX1_rank_21 ?_
      refine xs_aload_n 2 dX1_rank_22 rfl ?_
      refine g_Ln_behind dX1_rank_23 ?_
      refine xs_iload_n 1 dX1_rank_26 rfl ?_
      refine al_S1 dX1_rank_27 ?_
      refine xs_istore_n (L' := [(1, _), (2, _), (0, _)]) dX1_rank_28 (by decide) rfl ?_
      refine xs_iinc_n (L' := [(2, _), (1, _), (0, _)]) 1 dX1_rank_29 rfl (by decide) rfl ?_
      refine xs_goto (t := 7) dX1_rank_32 (by decide) ?_
      refine xs_sub (L' := [(2, _), (1, _), (0, _)]) [0, 1, 2] rfl ?_
      exact ih _ _ _ (by show i + 1 + n = (s.2 4 2).toNatClampNeg; omega) hX
set_option maxHeartbeats 4000000 in
set_option maxRecDepth 100000 in
theorem c_Ln_rank (ad : Nat → Nat) (cA : ClassId) (s : zT) : xct cA yX1_rank cX1_rank 3 none R_Ln_rank [.ref (ad 2)] (wd ad cA s) none (wd ad cA (mLn_rank s)) := by
  refine xct_of (own := RX1) (by decide) rfl (Nat.le_of_ble_eq_true rfl) (fun X hX => ?_)
  show xs X cA RX1 cX1_rank 3 none R_Ln_rank (wd ad cA s) 0 0 0 [(0, .ref (ad 2))] []
  refine xs_aload_n 0 dX1_rank_0 rfl ?_
  refine g_Ln_first dX1_rank_1 ?_
  refine xs_istore_n (L' := [(1, _), (0, _)]) dX1_rank_4 (by decide) rfl ?_
  refine xs_iconst (v := nI 0) dX1_rank_5 rfl ?_
  refine xs_istore_n (L' := [(2, _), (1, _), (0, _)]) dX1_rank_6 (by decide) rfl ?_
  refine xs_sub (L' := [(2, _), (1, _), (0, _)]) [0, 1, 2] rfl ?_
  exact t_Ln_rank (s.2 4 2).toNatClampNeg 0 _ _ (Nat.zero_add _) hX
theorem k_Ln_rank {X : xz_X} {cA : ClassId} {own : String} {ad : Nat → Nat} {cc : ByteArray} {nL : Nat} {ret : Option FieldType} {R : Room} {s : zT} {pc ix : Nat} {L : List (Nat × Value)} {st : List Value} (d : decode cc pc = .ok (.invokevirtual ix, 3)) (hw : xwV own ix yX1_rank cX1_rank 3 none 0) (hR : xroom R_Ln_rank 3 R) (hst : (st.map fun v => v.category).sum ≤ 8) (kk : xs X cA own cc nL ret R (wd ad cA (mLn_rank s)) 0 0 (pc + 3) L (st)) : xs X cA own cc nL ret R (wd ad cA s) 0 0 pc L (.ref (ad 2) :: st) :=
  xs_call 2 (c_Ln_rank ad cA s) rfl rfl d hw hR rfl rfl rfl hst ⟨Nat.zero_le _, Nat.zero_le _⟩ kk
abbrev R_Ln_free : Room := { frames := 0, cells := 0, slots := 0, locals := 0 }
set_option maxHeartbeats 4000000 in
set_option maxRecDepth 100000 in
theorem t_Ln_free {X : xz_X} {ad : Nat → Nat} {cA : ClassId} {s : zT} : ∀ (n i : Nat) (a : zS), i + n = 2002 → xfin X cA 0 0 (some (.int (mLn_freeL s n i a))) (wd ad cA (s)) → xs X cA RX1 cX1_freeSlots 3 (some .int) R_Ln_free (wd ad cA s) 0 0 7 [(1, .int (nI i)), (2, .int (zs a)), (0, .ref (ad 2))] [] := by
  intro n
  induction n with
  | zero =>
    intro i a hi hX
    refine xs_iload_n 1 dX1_freeSlots_7 rfl ?_
    refine xs_sif_eq (t := 31) dX1_freeSlots_8 (by decide) (fun c8 => ?_) (fun c8 => ?_)
    · refine xs_iload_n 0 dX1_freeSlots_31 rfl ?_
      exact xs_iret hX rfl dX1_freeSlots_32 rfl rfl
    · refine xs_iload_n 0 dX1_freeSlots_11 rfl ?_
      refine xs_sipush (v := 2002) dX1_freeSlots_12 (by decide) ?_
      refine xs_icmp_ge (t := 31) dX1_freeSlots_15 (by decide) (fun c15 => ?_) (fun c15 => ?_)
      · refine xs_iload_n 0 dX1_freeSlots_31 rfl ?_
        exact xs_iret hX rfl dX1_freeSlots_32 rfl rfl
      · exact absurd (show (2002 : Int32) ≤ nI i from kn_le (m := 2002) (by omega) (by omega)) c15
  | succ n ih =>
    intro i a hi hX
    refine xs_iload_n 1 dX1_freeSlots_7 rfl ?_
    refine xs_sif_eq (t := 31) dX1_freeSlots_8 (by decide) (fun c8 => ?_) (fun c8 => ?_)
    · refine xs_iload_n 0 dX1_freeSlots_31 rfl ?_
      exact xs_iret hX rfl dX1_freeSlots_32 (by simp only [mLn_freeL, if_pos c8]) rfl
    · refine xs_iload_n 0 dX1_freeSlots_11 rfl ?_
      refine xs_sipush (v := 2002) dX1_freeSlots_12 (by decide) ?_
      refine xs_icmp_ge (t := 31) dX1_freeSlots_15 (by decide) (fun c15 => ?_) (fun c15 => ?_)
      · exact absurd c15 (show ¬ (2002 : Int32) ≤ nI i from kn_nle (m := 2002) (by omega) (by decide))
      · refine xs_aload_n 2 dX1_freeSlots_18 rfl ?_
        refine g_Ln_behind dX1_freeSlots_19 ?_
        refine xs_iload_n 1 dX1_freeSlots_22 rfl ?_
        refine al_S1 dX1_freeSlots_23 ?_
        refine xs_istore_n (L' := [(2, _), (1, _), (0, _)]) dX1_freeSlots_24 (by decide) rfl ?_
        refine xs_iinc_n (L' := [(1, _), (2, _), (0, _)]) 1 dX1_freeSlots_25 rfl (by decide) rfl ?_
        refine xs_goto (t := 7) dX1_freeSlots_28 (by decide) ?_
        refine xs_sub (L' := [(1, _), (2, _), (0, _)]) [0, 1, 2] rfl ?_
        exact ih _ _ (by omega) (by simp only [mLn_freeL, if_neg c8, if_neg c15] at hX; exact hX)
set_option maxHeartbeats 4000000 in
set_option maxRecDepth 100000 in
theorem c_Ln_free (ad : Nat → Nat) (cA : ClassId) (s : zT) : xct cA yX1_freeSlots cX1_freeSlots 3 (some .int) R_Ln_free [.ref (ad 2)] (wd ad cA s) (some (.int (mLn_free s))) (wd ad cA (s)) := by
  refine xct_of (own := RX1) (by decide) rfl (Nat.le_of_ble_eq_true rfl) (fun X hX => ?_)
  show xs X cA RX1 cX1_freeSlots 3 (some .int) R_Ln_free (wd ad cA s) 0 0 0 [(0, .ref (ad 2))] []
  refine xs_iconst (v := nI 0) dX1_freeSlots_0 rfl ?_
  refine xs_istore_n (L' := [(1, _), (0, _)]) dX1_freeSlots_1 (by decide) rfl ?_
  refine xs_aload_n 1 dX1_freeSlots_2 rfl ?_
  refine g_Ln_free dX1_freeSlots_3 ?_
  refine xs_istore_n (L' := [(2, _), (1, _), (0, _)]) dX1_freeSlots_6 (by decide) rfl ?_
  refine xs_sub (L' := [(1, _), (2, _), (0, _)]) [1, 0, 2] rfl ?_
  exact t_Ln_free 2002 0 _ rfl hX
theorem k_Ln_free {X : xz_X} {cA : ClassId} {own : String} {ad : Nat → Nat} {cc : ByteArray} {nL : Nat} {ret : Option FieldType} {R : Room} {s : zT} {pc ix : Nat} {L : List (Nat × Value)} {st : List Value} (d : decode cc pc = .ok (.invokevirtual ix, 3)) (hw : xwV own ix yX1_freeSlots cX1_freeSlots 3 (some .int) 0) (hR : xroom R_Ln_free 3 R) (hst : (st.map fun v => v.category).sum ≤ 8) (kk : xs X cA own cc nL ret R (wd ad cA (s)) 0 0 (pc + 3) L (.int (mLn_free s) :: st)) : xs X cA own cc nL ret R (wd ad cA s) 0 0 pc L (.ref (ad 2) :: st) :=
  xs_call 2 (c_Ln_free ad cA s) rfl rfl d hw hR rfl rfl rfl hst ⟨Nat.zero_le _, Nat.zero_le _⟩ kk
abbrev R_Ln_faults : Room := { frames := 1, cells := 0, slots := 0, locals := 22 }
set_option maxRecDepth 100000 in
theorem kw_Ln_Ln_free : xwV RX1 41 yX1_freeSlots cX1_freeSlots 3 (some .int) 0 := ⟨⟨xt_of (List.mem_of_getElem? (i := 244) rfl) rfl, xt_of (by decide +kernel) rfl, xt_of (by decide +kernel) rfl, by decide +kernel⟩, xt_of (by decide +kernel) rfl, xt_of (by decide +kernel) rfl⟩
set_option maxHeartbeats 4000000 in
set_option maxRecDepth 100000 in
theorem t_Ln_fa3 {X : xz_X} {ad : Nat → Nat} {cA : ClassId} {s : zT} : ∀ (x : Int32) (i : Nat), xfin X cA 0 0 (some (.int (mLn_fa3 s x i))) (wd ad cA (s)) → xs X cA RX1 cX1_faults 5 (some .int) R_Ln_faults (wd ad cA s) 0 0 78 [(1, .int x), (2, .int (nI i)), (0, .ref (ad 2))] [] := by
  intro x i hX
  refine xs_iload_n 1 dX1_faults_78 rfl ?_
  refine xs_aload_n 2 dX1_faults_79 rfl ?_
  refine k_Ln_free dX1_faults_80 kw_Ln_Ln_free (by decide) (Nat.le_of_ble_eq_true rfl) ?_
  refine xs_iadd dX1_faults_83 ?_
  refine xs_sipush (v := 2001) dX1_faults_84 (by decide) ?_
  refine xs_icmp_eq (t := 93) dX1_faults_87 (by decide) (fun c87 => ?_) (fun c87 => ?_)
  · refine xs_iload_n 0 dX1_faults_93 rfl ?_
    exact xs_iret hX rfl dX1_faults_94 (by simp only [mLn_fa3, if_pos c87]) rfl
  · refine xs_iinc_1 (L' := [(1, _), (2, _), (0, _)]) 0 dX1_faults_90 rfl (by decide) rfl ?_
    refine xs_iload_n 0 dX1_faults_93 rfl ?_
    exact xs_iret hX rfl dX1_faults_94 (by simp only [mLn_fa3, if_neg c87]) rfl
set_option maxHeartbeats 4000000 in
set_option maxRecDepth 100000 in
theorem t_Ln_fa2 {X : xz_X} {ad : Nat → Nat} {cA : ClassId} {s : zT} : ∀ (x : Int32) (i : Nat), xfin X cA 0 0 (some (.int (mLn_fa2 s x i))) (wd ad cA (s)) → xs X cA RX1 cX1_faults 5 (some .int) R_Ln_faults (wd ad cA s) 0 0 67 [(1, .int x), (2, .int (nI i)), (0, .ref (ad 2))] [] := by
  intro x i hX
  refine xs_iload_n 1 dX1_faults_67 rfl ?_
  refine xs_aload_n 2 dX1_faults_68 rfl ?_
  refine g_Ln_count dX1_faults_69 ?_
  refine xs_icmp_eq (t := 78) dX1_faults_72 (by decide) (fun c72 => ?_) (fun c72 => ?_)
  · refine xs_sub (L' := [(1, _), (2, _), (0, _)]) [0, 1, 2] rfl ?_
    exact t_Ln_fa3 _ _ (by simp only [mLn_fa2, if_pos c72] at hX; exact hX)
  · refine xs_iinc_1 (L' := [(1, _), (2, _), (0, _)]) 0 dX1_faults_75 rfl (by decide) rfl ?_
    refine xs_sub (L' := [(1, _), (2, _), (0, _)]) [0, 1, 2] rfl ?_
    exact t_Ln_fa3 _ _ (by simp only [mLn_fa2, if_neg c72] at hX; exact hX)
set_option maxHeartbeats 4000000 in
set_option maxRecDepth 100000 in
theorem t_Ln_fa1 {X : xz_X} {ad : Nat → Nat} {cA : ClassId} {s : zT} : ∀ (x : Int32) (i : Nat) (f : zS), xfin X cA 0 0 (some (.int (mLn_fa1 s x i f))) (wd ad cA (s)) → xs X cA RX1 cX1_faults 5 (some .int) R_Ln_faults (wd ad cA s) 0 0 56 [(1, .int x), (2, .int (nI i)), (3, .int (zs f)), (0, .ref (ad 2))] [] := by
  intro x i f hX
  refine xs_iload_n 2 dX1_faults_56 rfl ?_
  refine xs_aload_n 3 dX1_faults_57 rfl ?_
  refine g_Ln_last dX1_faults_58 ?_
  refine xs_scmp_eq (t := 67) dX1_faults_61 (by decide) (fun c61 => ?_) (fun c61 => ?_)
  · refine xs_sub (L' := [(1, _), (2, _), (0, _)]) [0, 1, 3] rfl ?_
    exact t_Ln_fa2 _ _ (by simp only [mLn_fa1, if_pos c61] at hX; exact hX)
  · refine xs_iinc_1 (L' := [(1, _), (2, _), (3, _), (0, _)]) 0 dX1_faults_64 rfl (by decide) rfl ?_
    refine xs_sub (L' := [(1, _), (2, _), (0, _)]) [0, 1, 3] rfl ?_
    exact t_Ln_fa2 _ _ (by simp only [mLn_fa1, if_neg c61] at hX; exact hX)
set_option maxHeartbeats 4000000 in
set_option maxRecDepth 100000 in
theorem t_Ln_faL {X : xz_X} {ad : Nat → Nat} {cA : ClassId} {s : zT} : ∀ (n i : Nat) (x : Int32) (f a : zS), i + n = 2002 → xfin X cA 0 0 (some (.int (mLn_faL s n i x f a))) (wd ad cA (s)) → xs X cA RX1 cX1_faults 5 (some .int) R_Ln_faults (wd ad cA s) 0 0 12 [(4, .int (zs a)), (3, .int (zs f)), (2, .int (nI i)), (1, .int x), (0, .ref (ad 2))] [] := by
  intro n
  induction n with
  | zero =>
    intro i x f a hi hX
    refine xs_iload 0 dX1_faults_12 rfl ?_
    refine xs_sif_eq (t := 56) dX1_faults_14 (by decide) (fun c14 => ?_) (fun c14 => ?_)
    · refine xs_sub (L' := [(1, _), (2, _), (3, _), (0, _)]) [3, 2, 1, 4] rfl ?_
      exact t_Ln_fa1 _ _ _ hX
    · refine xs_iload_n 2 dX1_faults_17 rfl ?_
      refine xs_sipush (v := 2002) dX1_faults_18 (by decide) ?_
      refine xs_icmp_ge (t := 56) dX1_faults_21 (by decide) (fun c21 => ?_) (fun c21 => ?_)
      · refine xs_sub (L' := [(1, _), (2, _), (3, _), (0, _)]) [3, 2, 1, 4] rfl ?_
        exact t_Ln_fa1 _ _ _ hX
      · exact absurd (show (2002 : Int32) ≤ nI i from kn_le (m := 2002) (by omega) (by omega)) c21
  | succ n ih =>
    intro i x f a hi hX
    refine xs_iload 0 dX1_faults_12 rfl ?_
    refine xs_sif_eq (t := 56) dX1_faults_14 (by decide) (fun c14 => ?_) (fun c14 => ?_)
    · refine xs_sub (L' := [(1, _), (2, _), (3, _), (0, _)]) [3, 2, 1, 4] rfl ?_
      exact t_Ln_fa1 _ _ _ (by simp only [mLn_faL, if_pos c14] at hX; exact hX)
    · refine xs_iload_n 2 dX1_faults_17 rfl ?_
      refine xs_sipush (v := 2002) dX1_faults_18 (by decide) ?_
      refine xs_icmp_ge (t := 56) dX1_faults_21 (by decide) (fun c21 => ?_) (fun c21 => ?_)
      · exact absurd c21 (show ¬ (2002 : Int32) ≤ nI i from kn_nle (m := 2002) (by omega) (by decide))
      · refine xs_aload_n 4 dX1_faults_24 rfl ?_
        refine g_Ln_before dX1_faults_25 ?_
        refine xs_iload 0 dX1_faults_28 rfl ?_
        refine al_S0 dX1_faults_30 ?_
        refine xs_iload_n 1 dX1_faults_31 rfl ?_
        refine xs_scmp_eq (t := 38) dX1_faults_32 (by decide) (fun c32 => ?_) (fun c32 => ?_)
        · refine xs_iload 0 dX1_faults_38 rfl ?_
          refine xs_istore_n (L' := [(3, _), (4, _), (2, _), (1, _), (0, _)]) dX1_faults_40 (by decide) rfl ?_
          refine xs_aload_n 4 dX1_faults_41 rfl ?_
          refine g_Ln_behind dX1_faults_42 ?_
          refine xs_iload 1 dX1_faults_45 rfl ?_
          refine al_S1 dX1_faults_47 ?_
          refine xs_istore (L' := [(4, _), (3, _), (2, _), (1, _), (0, _)]) dX1_faults_48 (by decide) rfl ?_
          refine xs_iinc_n (L' := [(2, _), (4, _), (3, _), (1, _), (0, _)]) 2 dX1_faults_50 rfl (by decide) rfl ?_
          refine xs_goto (t := 12) dX1_faults_53 (by decide) ?_
          refine xs_sub (L' := [(4, _), (3, _), (2, _), (1, _), (0, _)]) [1, 2, 0, 3, 4] rfl ?_
          exact ih _ _ _ _ (by omega) (by simp only [mLn_faL, if_neg c14, if_neg c21, if_pos c32] at hX; exact hX)
        · refine xs_iinc_1 (L' := [(1, _), (4, _), (3, _), (2, _), (0, _)]) 3 dX1_faults_35 rfl (by decide) rfl ?_
          refine xs_iload 1 dX1_faults_38 rfl ?_
          refine xs_istore_n (L' := [(3, _), (1, _), (4, _), (2, _), (0, _)]) dX1_faults_40 (by decide) rfl ?_
          refine xs_aload_n 4 dX1_faults_41 rfl ?_
          refine g_Ln_behind dX1_faults_42 ?_
          refine xs_iload 2 dX1_faults_45 rfl ?_
          refine al_S1 dX1_faults_47 ?_
          refine xs_istore (L' := [(4, _), (3, _), (1, _), (2, _), (0, _)]) dX1_faults_48 (by decide) rfl ?_
          refine xs_iinc_n (L' := [(2, _), (4, _), (3, _), (1, _), (0, _)]) 3 dX1_faults_50 rfl (by decide) rfl ?_
          refine xs_goto (t := 12) dX1_faults_53 (by decide) ?_
          refine xs_sub (L' := [(4, _), (3, _), (2, _), (1, _), (0, _)]) [1, 2, 0, 3, 4] rfl ?_
          exact ih _ _ _ _ (by omega) (by simp only [mLn_faL, if_neg c14, if_neg c21, if_neg c32] at hX; exact hX)
set_option maxHeartbeats 4000000 in
set_option maxRecDepth 100000 in
theorem c_Ln_faults (ad : Nat → Nat) (cA : ClassId) (s : zT) : xct cA yX1_faults cX1_faults 5 (some .int) R_Ln_faults [.ref (ad 2)] (wd ad cA s) (some (.int (mLn_faults s))) (wd ad cA (s)) := by
  refine xct_of (own := RX1) (by decide) rfl (Nat.le_of_ble_eq_true rfl) (fun X hX => ?_)
  show xs X cA RX1 cX1_faults 5 (some .int) R_Ln_faults (wd ad cA s) 0 0 0 [(0, .ref (ad 2))] []
  refine xs_iconst (v := 0) dX1_faults_0 (by decide) ?_
  refine xs_istore_n (L' := [(1, _), (0, _)]) dX1_faults_1 (by decide) rfl ?_
  refine xs_iconst (v := nI 0) dX1_faults_2 rfl ?_
  refine xs_istore_n (L' := [(2, _), (1, _), (0, _)]) dX1_faults_3 (by decide) rfl ?_
  refine xs_iconst (v := zs 0) dX1_faults_4 rfl ?_
  refine xs_istore_n (L' := [(3, _), (2, _), (1, _), (0, _)]) dX1_faults_5 (by decide) rfl ?_
  refine xs_aload_n 3 dX1_faults_6 rfl ?_
  refine g_Ln_first dX1_faults_7 ?_
  refine xs_istore (L' := [(4, _), (3, _), (2, _), (1, _), (0, _)]) dX1_faults_10 (by decide) rfl ?_
  refine xs_sub (L' := [(4, _), (3, _), (2, _), (1, _), (0, _)]) [0, 1, 2, 3, 4] rfl ?_
  exact t_Ln_faL 2002 0 _ _ _ rfl hX
theorem k_Ln_faults {X : xz_X} {cA : ClassId} {own : String} {ad : Nat → Nat} {cc : ByteArray} {nL : Nat} {ret : Option FieldType} {R : Room} {s : zT} {pc ix : Nat} {L : List (Nat × Value)} {st : List Value} (d : decode cc pc = .ok (.invokevirtual ix, 3)) (hw : xwV own ix yX1_faults cX1_faults 5 (some .int) 0) (hR : xroom R_Ln_faults 5 R) (hst : (st.map fun v => v.category).sum ≤ 8) (kk : xs X cA own cc nL ret R (wd ad cA (s)) 0 0 (pc + 3) L (.int (mLn_faults s) :: st)) : xs X cA own cc nL ret R (wd ad cA s) 0 0 pc L (.ref (ad 2) :: st) :=
  xs_call 2 (c_Ln_faults ad cA s) rfl rfl d hw hR rfl rfl rfl hst ⟨Nat.zero_le _, Nat.zero_le _⟩ kk
end
section
theorem dX2_init_0 : decode cX2_init 0 = .ok (.aload_n 0, 1) := by decide +kernel
theorem dX2_init_1 : decode cX2_init 1 = .ok (.invokespecial 3, 3) := by decide +kernel
theorem dX2_init_4 : decode cX2_init 4 = .ok (.aload_n 0, 1) := by decide +kernel
theorem dX2_init_5 : decode cX2_init 5 = .ok (.sipush 2002, 3) := by decide +kernel
theorem dX2_init_8 : decode cX2_init 8 = .ok (.newarray .int, 2) := by decide +kernel
theorem dX2_init_10 : decode cX2_init 10 = .ok (.putfield 9, 3) := by decide +kernel
theorem dX2_init_13 : decode cX2_init 13 = .ok (.aload_n 0, 1) := by decide +kernel
theorem dX2_init_14 : decode cX2_init 14 = .ok (.sipush 2002, 3) := by decide +kernel
theorem dX2_init_17 : decode cX2_init 17 = .ok (.newarray .int, 2) := by decide +kernel
theorem dX2_init_19 : decode cX2_init 19 = .ok (.putfield 15, 3) := by decide +kernel
theorem dX2_init_22 : decode cX2_init 22 = .ok (.aload_n 0, 1) := by decide +kernel
theorem dX2_init_23 : decode cX2_init 23 = .ok (.sipush 2002, 3) := by decide +kernel
theorem dX2_init_26 : decode cX2_init 26 = .ok (.newarray .int, 2) := by decide +kernel
theorem dX2_init_28 : decode cX2_init 28 = .ok (.putfield 18, 3) := by decide +kernel
theorem dX2_init_31 : decode cX2_init 31 = .ok (.aload_n 0, 1) := by decide +kernel
theorem dX2_init_32 : decode cX2_init 32 = .ok (.sipush 2002, 3) := by decide +kernel
theorem dX2_init_35 : decode cX2_init 35 = .ok (.newarray .int, 2) := by decide +kernel
theorem dX2_init_37 : decode cX2_init 37 = .ok (.putfield 21, 3) := by decide +kernel
theorem dX2_init_40 : decode cX2_init 40 = .ok (.aload_n 0, 1) := by decide +kernel
theorem dX2_init_41 : decode cX2_init 41 = .ok (.bipush 40, 2) := by decide +kernel
theorem dX2_init_43 : decode cX2_init 43 = .ok (.newarray .int, 2) := by decide +kernel
theorem dX2_init_45 : decode cX2_init 45 = .ok (.putfield 24, 3) := by decide +kernel
theorem dX2_init_48 : decode cX2_init 48 = .ok (.return_, 1) := by decide +kernel
theorem dX2_keyOf_0 : decode cX2_keyOf 0 = .ok (.aload_n 0, 1) := by decide +kernel
theorem dX2_keyOf_1 : decode cX2_keyOf 1 = .ok (.getfield 9, 3) := by decide +kernel
theorem dX2_keyOf_4 : decode cX2_keyOf 4 = .ok (.iload_n 1, 1) := by decide +kernel
theorem dX2_keyOf_5 : decode cX2_keyOf 5 = .ok (.iaload, 1) := by decide +kernel
theorem dX2_keyOf_6 : decode cX2_keyOf 6 = .ok (.ireturn, 1) := by decide +kernel
theorem dX2_name_0 : decode cX2_name 0 = .ok (.aload_n 0, 1) := by decide +kernel
theorem dX2_name_1 : decode cX2_name 1 = .ok (.getfield 9, 3) := by decide +kernel
theorem dX2_name_4 : decode cX2_name 4 = .ok (.iload_n 1, 1) := by decide +kernel
theorem dX2_name_5 : decode cX2_name 5 = .ok (.iload_n 2, 1) := by decide +kernel
theorem dX2_name_6 : decode cX2_name 6 = .ok (.iastore, 1) := by decide +kernel
theorem dX2_name_7 : decode cX2_name 7 = .ok (.return_, 1) := by decide +kernel
theorem dX2_heightOf_0 : decode cX2_heightOf 0 = .ok (.aload_n 0, 1) := by decide +kernel
theorem dX2_heightOf_1 : decode cX2_heightOf 1 = .ok (.getfield 21, 3) := by decide +kernel
theorem dX2_heightOf_4 : decode cX2_heightOf 4 = .ok (.iload_n 1, 1) := by decide +kernel
theorem dX2_heightOf_5 : decode cX2_heightOf 5 = .ok (.iaload, 1) := by decide +kernel
theorem dX2_heightOf_6 : decode cX2_heightOf 6 = .ok (.ireturn, 1) := by decide +kernel
theorem dX2_slotOf_0 : decode cX2_slotOf 0 = .ok (.iload_n 1, 1) := by decide +kernel
theorem dX2_slotOf_1 : decode cX2_slotOf 1 = .ok (.istore_n 3, 1) := by decide +kernel
theorem dX2_slotOf_2 : decode cX2_slotOf 2 = .ok (.iconst 0, 1) := by decide +kernel
theorem dX2_slotOf_3 : decode cX2_slotOf 3 = .ok (.istore 4, 2) := by decide +kernel
theorem dX2_slotOf_5 : decode cX2_slotOf 5 = .ok (.iload 4, 2) := by decide +kernel
theorem dX2_slotOf_7 : decode cX2_slotOf 7 = .ok (.bipush 40, 2) := by decide +kernel
theorem dX2_slotOf_9 : decode cX2_slotOf 9 = .ok (.if_icmp .ge 51, 3) := by decide +kernel
theorem dX2_slotOf_12 : decode cX2_slotOf 12 = .ok (.iload_n 3, 1) := by decide +kernel
theorem dX2_slotOf_13 : decode cX2_slotOf 13 = .ok (.ifCond .eq 47, 3) := by decide +kernel
theorem dX2_slotOf_16 : decode cX2_slotOf 16 = .ok (.aload_n 0, 1) := by decide +kernel
theorem dX2_slotOf_17 : decode cX2_slotOf 17 = .ok (.getfield 9, 3) := by decide +kernel
theorem dX2_slotOf_20 : decode cX2_slotOf 20 = .ok (.iload_n 3, 1) := by decide +kernel
theorem dX2_slotOf_21 : decode cX2_slotOf 21 = .ok (.iaload, 1) := by decide +kernel
theorem dX2_slotOf_22 : decode cX2_slotOf 22 = .ok (.iload_n 2, 1) := by decide +kernel
theorem dX2_slotOf_23 : decode cX2_slotOf 23 = .ok (.if_icmp .ne 5, 3) := by decide +kernel
theorem dX2_slotOf_26 : decode cX2_slotOf 26 = .ok (.iload_n 3, 1) := by decide +kernel
theorem dX2_slotOf_27 : decode cX2_slotOf 27 = .ok (.ireturn, 1) := by decide +kernel
theorem dX2_slotOf_28 : decode cX2_slotOf 28 = .ok (.iload_n 2, 1) := by decide +kernel
theorem dX2_slotOf_29 : decode cX2_slotOf 29 = .ok (.aload_n 0, 1) := by decide +kernel
theorem dX2_slotOf_30 : decode cX2_slotOf 30 = .ok (.getfield 9, 3) := by decide +kernel
theorem dX2_slotOf_33 : decode cX2_slotOf 33 = .ok (.iload_n 3, 1) := by decide +kernel
theorem dX2_slotOf_34 : decode cX2_slotOf 34 = .ok (.iaload, 1) := by decide +kernel
theorem dX2_slotOf_35 : decode cX2_slotOf 35 = .ok (.if_icmp .ge 12, 3) := by decide +kernel
theorem dX2_slotOf_38 : decode cX2_slotOf 38 = .ok (.aload_n 0, 1) := by decide +kernel
theorem dX2_slotOf_39 : decode cX2_slotOf 39 = .ok (.getfield 15, 3) := by decide +kernel
theorem dX2_slotOf_42 : decode cX2_slotOf 42 = .ok (.iload_n 3, 1) := by decide +kernel
theorem dX2_slotOf_43 : decode cX2_slotOf 43 = .ok (.iaload, 1) := by decide +kernel
theorem dX2_slotOf_44 : decode cX2_slotOf 44 = .ok (.goto 9, 3) := by decide +kernel
theorem dX2_slotOf_47 : decode cX2_slotOf 47 = .ok (.aload_n 0, 1) := by decide +kernel
theorem dX2_slotOf_48 : decode cX2_slotOf 48 = .ok (.getfield 18, 3) := by decide +kernel
theorem dX2_slotOf_51 : decode cX2_slotOf 51 = .ok (.iload_n 3, 1) := by decide +kernel
theorem dX2_slotOf_52 : decode cX2_slotOf 52 = .ok (.iaload, 1) := by decide +kernel
theorem dX2_slotOf_53 : decode cX2_slotOf 53 = .ok (.istore_n 3, 1) := by decide +kernel
theorem dX2_slotOf_54 : decode cX2_slotOf 54 = .ok (.iinc 4 1, 3) := by decide +kernel
theorem dX2_slotOf_57 : decode cX2_slotOf 57 = .ok (.goto (-52), 3) := by decide +kernel
theorem dX2_slotOf_60 : decode cX2_slotOf 60 = .ok (.iconst 0, 1) := by decide +kernel
theorem dX2_slotOf_61 : decode cX2_slotOf 61 = .ok (.ireturn, 1) := by decide +kernel
theorem dX2_with_0 : decode cX2_with 0 = .ok (.aload_n 0, 1) := by decide +kernel
theorem dX2_with_1 : decode cX2_with 1 = .ok (.getfield 15, 3) := by decide +kernel
theorem dX2_with_4 : decode cX2_with 4 = .ok (.iload_n 2, 1) := by decide +kernel
theorem dX2_with_5 : decode cX2_with 5 = .ok (.iconst 0, 1) := by decide +kernel
theorem dX2_with_6 : decode cX2_with 6 = .ok (.iastore, 1) := by decide +kernel
theorem dX2_with_7 : decode cX2_with 7 = .ok (.aload_n 0, 1) := by decide +kernel
theorem dX2_with_8 : decode cX2_with 8 = .ok (.getfield 18, 3) := by decide +kernel
theorem dX2_with_11 : decode cX2_with 11 = .ok (.iload_n 2, 1) := by decide +kernel
theorem dX2_with_12 : decode cX2_with 12 = .ok (.iconst 0, 1) := by decide +kernel
theorem dX2_with_13 : decode cX2_with 13 = .ok (.iastore, 1) := by decide +kernel
theorem dX2_with_14 : decode cX2_with 14 = .ok (.aload_n 0, 1) := by decide +kernel
theorem dX2_with_15 : decode cX2_with 15 = .ok (.getfield 21, 3) := by decide +kernel
theorem dX2_with_18 : decode cX2_with 18 = .ok (.iload_n 2, 1) := by decide +kernel
theorem dX2_with_19 : decode cX2_with 19 = .ok (.iconst 1, 1) := by decide +kernel
theorem dX2_with_20 : decode cX2_with 20 = .ok (.iastore, 1) := by decide +kernel
theorem dX2_with_21 : decode cX2_with 21 = .ok (.aload_n 0, 1) := by decide +kernel
theorem dX2_with_22 : decode cX2_with 22 = .ok (.iload_n 1, 1) := by decide +kernel
theorem dX2_with_23 : decode cX2_with 23 = .ok (.iload_n 2, 1) := by decide +kernel
theorem dX2_with_24 : decode cX2_with 24 = .ok (.invokevirtual 27, 3) := by decide +kernel
theorem dX2_with_27 : decode cX2_with 27 = .ok (.istore_n 3, 1) := by decide +kernel
theorem dX2_with_28 : decode cX2_with 28 = .ok (.aload_n 0, 1) := by decide +kernel
theorem dX2_with_29 : decode cX2_with 29 = .ok (.iload_n 3, 1) := by decide +kernel
theorem dX2_with_30 : decode cX2_with 30 = .ok (.aload_n 0, 1) := by decide +kernel
theorem dX2_with_31 : decode cX2_with 31 = .ok (.getfield 9, 3) := by decide +kernel
theorem dX2_with_34 : decode cX2_with 34 = .ok (.iload_n 2, 1) := by decide +kernel
theorem dX2_with_35 : decode cX2_with 35 = .ok (.iaload, 1) := by decide +kernel
theorem dX2_with_36 : decode cX2_with 36 = .ok (.iload_n 2, 1) := by decide +kernel
theorem dX2_with_37 : decode cX2_with 37 = .ok (.invokevirtual 31, 3) := by decide +kernel
theorem dX2_with_40 : decode cX2_with 40 = .ok (.ireturn, 1) := by decide +kernel
theorem dX2_without_0 : decode cX2_without 0 = .ok (.aload_n 0, 1) := by decide +kernel
theorem dX2_without_1 : decode cX2_without 1 = .ok (.iload_n 1, 1) := by decide +kernel
theorem dX2_without_2 : decode cX2_without 2 = .ok (.iload_n 2, 1) := by decide +kernel
theorem dX2_without_3 : decode cX2_without 3 = .ok (.invokevirtual 27, 3) := by decide +kernel
theorem dX2_without_6 : decode cX2_without 6 = .ok (.istore_n 3, 1) := by decide +kernel
theorem dX2_without_7 : decode cX2_without 7 = .ok (.aload_n 0, 1) := by decide +kernel
theorem dX2_without_8 : decode cX2_without 8 = .ok (.getfield 18, 3) := by decide +kernel
theorem dX2_without_11 : decode cX2_without 11 = .ok (.iload_n 2, 1) := by decide +kernel
theorem dX2_without_12 : decode cX2_without 12 = .ok (.iaload, 1) := by decide +kernel
theorem dX2_without_13 : decode cX2_without 13 = .ok (.ifCond .ne 21, 3) := by decide +kernel
theorem dX2_without_16 : decode cX2_without 16 = .ok (.aload_n 0, 1) := by decide +kernel
theorem dX2_without_17 : decode cX2_without 17 = .ok (.iload_n 3, 1) := by decide +kernel
theorem dX2_without_18 : decode cX2_without 18 = .ok (.aload_n 0, 1) := by decide +kernel
theorem dX2_without_19 : decode cX2_without 19 = .ok (.getfield 9, 3) := by decide +kernel
theorem dX2_without_22 : decode cX2_without 22 = .ok (.iload_n 2, 1) := by decide +kernel
theorem dX2_without_23 : decode cX2_without 23 = .ok (.iaload, 1) := by decide +kernel
theorem dX2_without_24 : decode cX2_without 24 = .ok (.aload_n 0, 1) := by decide +kernel
theorem dX2_without_25 : decode cX2_without 25 = .ok (.getfield 15, 3) := by decide +kernel
theorem dX2_without_28 : decode cX2_without 28 = .ok (.iload_n 2, 1) := by decide +kernel
theorem dX2_without_29 : decode cX2_without 29 = .ok (.iaload, 1) := by decide +kernel
theorem dX2_without_30 : decode cX2_without 30 = .ok (.invokevirtual 31, 3) := by decide +kernel
theorem dX2_without_33 : decode cX2_without 33 = .ok (.ireturn, 1) := by decide +kernel
theorem dX2_without_34 : decode cX2_without 34 = .ok (.iload_n 3, 1) := by decide +kernel
theorem dX2_without_35 : decode cX2_without 35 = .ok (.istore 4, 2) := by decide +kernel
theorem dX2_without_37 : decode cX2_without 37 = .ok (.aload_n 0, 1) := by decide +kernel
theorem dX2_without_38 : decode cX2_without 38 = .ok (.getfield 18, 3) := by decide +kernel
theorem dX2_without_41 : decode cX2_without 41 = .ok (.iload_n 2, 1) := by decide +kernel
theorem dX2_without_42 : decode cX2_without 42 = .ok (.iaload, 1) := by decide +kernel
theorem dX2_without_43 : decode cX2_without 43 = .ok (.istore 5, 2) := by decide +kernel
theorem dX2_without_45 : decode cX2_without 45 = .ok (.iinc 3 1, 3) := by decide +kernel
theorem dX2_without_48 : decode cX2_without 48 = .ok (.aload_n 0, 1) := by decide +kernel
theorem dX2_without_49 : decode cX2_without 49 = .ok (.getfield 15, 3) := by decide +kernel
theorem dX2_without_52 : decode cX2_without 52 = .ok (.iload 5, 2) := by decide +kernel
theorem dX2_without_54 : decode cX2_without 54 = .ok (.iaload, 1) := by decide +kernel
theorem dX2_without_55 : decode cX2_without 55 = .ok (.ifCond .eq 32, 3) := by decide +kernel
theorem dX2_without_58 : decode cX2_without 58 = .ok (.iload_n 3, 1) := by decide +kernel
theorem dX2_without_59 : decode cX2_without 59 = .ok (.bipush 40, 2) := by decide +kernel
theorem dX2_without_61 : decode cX2_without 61 = .ok (.if_icmp .ge 26, 3) := by decide +kernel
theorem dX2_without_64 : decode cX2_without 64 = .ok (.aload_n 0, 1) := by decide +kernel
theorem dX2_without_65 : decode cX2_without 65 = .ok (.getfield 24, 3) := by decide +kernel
theorem dX2_without_68 : decode cX2_without 68 = .ok (.iload_n 3, 1) := by decide +kernel
theorem dX2_without_69 : decode cX2_without 69 = .ok (.iload 5, 2) := by decide +kernel
theorem dX2_without_71 : decode cX2_without 71 = .ok (.iastore, 1) := by decide +kernel
theorem dX2_without_72 : decode cX2_without 72 = .ok (.iinc 3 1, 3) := by decide +kernel
theorem dX2_without_75 : decode cX2_without 75 = .ok (.aload_n 0, 1) := by decide +kernel
theorem dX2_without_76 : decode cX2_without 76 = .ok (.getfield 15, 3) := by decide +kernel
theorem dX2_without_79 : decode cX2_without 79 = .ok (.iload 5, 2) := by decide +kernel
theorem dX2_without_81 : decode cX2_without 81 = .ok (.iaload, 1) := by decide +kernel
theorem dX2_without_82 : decode cX2_without 82 = .ok (.istore 5, 2) := by decide +kernel
theorem dX2_without_84 : decode cX2_without 84 = .ok (.goto (-36), 3) := by decide +kernel
theorem dX2_without_87 : decode cX2_without 87 = .ok (.aload_n 0, 1) := by decide +kernel
theorem dX2_without_88 : decode cX2_without 88 = .ok (.getfield 24, 3) := by decide +kernel
theorem dX2_without_91 : decode cX2_without 91 = .ok (.iload 4, 2) := by decide +kernel
theorem dX2_without_93 : decode cX2_without 93 = .ok (.iload 5, 2) := by decide +kernel
theorem dX2_without_95 : decode cX2_without 95 = .ok (.iastore, 1) := by decide +kernel
theorem dX2_without_96 : decode cX2_without 96 = .ok (.aload_n 0, 1) := by decide +kernel
theorem dX2_without_97 : decode cX2_without 97 = .ok (.getfield 15, 3) := by decide +kernel
theorem dX2_without_100 : decode cX2_without 100 = .ok (.iload 5, 2) := by decide +kernel
theorem dX2_without_102 : decode cX2_without 102 = .ok (.aload_n 0, 1) := by decide +kernel
theorem dX2_without_103 : decode cX2_without 103 = .ok (.getfield 15, 3) := by decide +kernel
theorem dX2_without_106 : decode cX2_without 106 = .ok (.iload_n 2, 1) := by decide +kernel
theorem dX2_without_107 : decode cX2_without 107 = .ok (.iaload, 1) := by decide +kernel
theorem dX2_without_108 : decode cX2_without 108 = .ok (.iastore, 1) := by decide +kernel
theorem dX2_without_109 : decode cX2_without 109 = .ok (.aload_n 0, 1) := by decide +kernel
theorem dX2_without_110 : decode cX2_without 110 = .ok (.iload_n 3, 1) := by decide +kernel
theorem dX2_without_111 : decode cX2_without 111 = .ok (.aload_n 0, 1) := by decide +kernel
theorem dX2_without_112 : decode cX2_without 112 = .ok (.getfield 9, 3) := by decide +kernel
theorem dX2_without_115 : decode cX2_without 115 = .ok (.iload 5, 2) := by decide +kernel
theorem dX2_without_117 : decode cX2_without 117 = .ok (.iaload, 1) := by decide +kernel
theorem dX2_without_118 : decode cX2_without 118 = .ok (.aload_n 0, 1) := by decide +kernel
theorem dX2_without_119 : decode cX2_without 119 = .ok (.getfield 18, 3) := by decide +kernel
theorem dX2_without_122 : decode cX2_without 122 = .ok (.iload 5, 2) := by decide +kernel
theorem dX2_without_124 : decode cX2_without 124 = .ok (.iaload, 1) := by decide +kernel
theorem dX2_without_125 : decode cX2_without 125 = .ok (.invokevirtual 31, 3) := by decide +kernel
theorem dX2_without_128 : decode cX2_without 128 = .ok (.ireturn, 1) := by decide +kernel
theorem dX2_faultsAt_0 : decode cX2_faultsAt 0 = .ok (.iconst 0, 1) := by decide +kernel
theorem dX2_faultsAt_1 : decode cX2_faultsAt 1 = .ok (.istore_n 2, 1) := by decide +kernel
theorem dX2_faultsAt_2 : decode cX2_faultsAt 2 = .ok (.aload_n 0, 1) := by decide +kernel
theorem dX2_faultsAt_3 : decode cX2_faultsAt 3 = .ok (.getfield 15, 3) := by decide +kernel
theorem dX2_faultsAt_6 : decode cX2_faultsAt 6 = .ok (.iload_n 1, 1) := by decide +kernel
theorem dX2_faultsAt_7 : decode cX2_faultsAt 7 = .ok (.iaload, 1) := by decide +kernel
theorem dX2_faultsAt_8 : decode cX2_faultsAt 8 = .ok (.istore_n 3, 1) := by decide +kernel
theorem dX2_faultsAt_9 : decode cX2_faultsAt 9 = .ok (.aload_n 0, 1) := by decide +kernel
theorem dX2_faultsAt_10 : decode cX2_faultsAt 10 = .ok (.getfield 18, 3) := by decide +kernel
theorem dX2_faultsAt_13 : decode cX2_faultsAt 13 = .ok (.iload_n 1, 1) := by decide +kernel
theorem dX2_faultsAt_14 : decode cX2_faultsAt 14 = .ok (.iaload, 1) := by decide +kernel
theorem dX2_faultsAt_15 : decode cX2_faultsAt 15 = .ok (.istore 4, 2) := by decide +kernel
theorem dX2_faultsAt_17 : decode cX2_faultsAt 17 = .ok (.iload_n 3, 1) := by decide +kernel
theorem dX2_faultsAt_18 : decode cX2_faultsAt 18 = .ok (.ifCond .eq 21, 3) := by decide +kernel
theorem dX2_faultsAt_21 : decode cX2_faultsAt 21 = .ok (.aload_n 0, 1) := by decide +kernel
theorem dX2_faultsAt_22 : decode cX2_faultsAt 22 = .ok (.getfield 9, 3) := by decide +kernel
theorem dX2_faultsAt_25 : decode cX2_faultsAt 25 = .ok (.iload_n 3, 1) := by decide +kernel
theorem dX2_faultsAt_26 : decode cX2_faultsAt 26 = .ok (.iaload, 1) := by decide +kernel
theorem dX2_faultsAt_27 : decode cX2_faultsAt 27 = .ok (.aload_n 0, 1) := by decide +kernel
theorem dX2_faultsAt_28 : decode cX2_faultsAt 28 = .ok (.getfield 9, 3) := by decide +kernel
theorem dX2_faultsAt_31 : decode cX2_faultsAt 31 = .ok (.iload_n 1, 1) := by decide +kernel
theorem dX2_faultsAt_32 : decode cX2_faultsAt 32 = .ok (.iaload, 1) := by decide +kernel
theorem dX2_faultsAt_33 : decode cX2_faultsAt 33 = .ok (.if_icmp .lt 6, 3) := by decide +kernel
theorem dX2_faultsAt_36 : decode cX2_faultsAt 36 = .ok (.iinc 2 1, 3) := by decide +kernel
theorem dX2_faultsAt_39 : decode cX2_faultsAt 39 = .ok (.iload 4, 2) := by decide +kernel
theorem dX2_faultsAt_41 : decode cX2_faultsAt 41 = .ok (.ifCond .eq 22, 3) := by decide +kernel
theorem dX2_faultsAt_44 : decode cX2_faultsAt 44 = .ok (.aload_n 0, 1) := by decide +kernel
theorem dX2_faultsAt_45 : decode cX2_faultsAt 45 = .ok (.getfield 9, 3) := by decide +kernel
theorem dX2_faultsAt_48 : decode cX2_faultsAt 48 = .ok (.iload 4, 2) := by decide +kernel
theorem dX2_faultsAt_50 : decode cX2_faultsAt 50 = .ok (.iaload, 1) := by decide +kernel
theorem dX2_faultsAt_51 : decode cX2_faultsAt 51 = .ok (.aload_n 0, 1) := by decide +kernel
theorem dX2_faultsAt_52 : decode cX2_faultsAt 52 = .ok (.getfield 9, 3) := by decide +kernel
theorem dX2_faultsAt_55 : decode cX2_faultsAt 55 = .ok (.iload_n 1, 1) := by decide +kernel
theorem dX2_faultsAt_56 : decode cX2_faultsAt 56 = .ok (.iaload, 1) := by decide +kernel
theorem dX2_faultsAt_57 : decode cX2_faultsAt 57 = .ok (.if_icmp .gt 6, 3) := by decide +kernel
theorem dX2_faultsAt_60 : decode cX2_faultsAt 60 = .ok (.iinc 2 1, 3) := by decide +kernel
theorem dX2_faultsAt_63 : decode cX2_faultsAt 63 = .ok (.aload_n 0, 1) := by decide +kernel
theorem dX2_faultsAt_64 : decode cX2_faultsAt 64 = .ok (.getfield 21, 3) := by decide +kernel
theorem dX2_faultsAt_67 : decode cX2_faultsAt 67 = .ok (.iload_n 3, 1) := by decide +kernel
theorem dX2_faultsAt_68 : decode cX2_faultsAt 68 = .ok (.iaload, 1) := by decide +kernel
theorem dX2_faultsAt_69 : decode cX2_faultsAt 69 = .ok (.aload_n 0, 1) := by decide +kernel
theorem dX2_faultsAt_70 : decode cX2_faultsAt 70 = .ok (.getfield 21, 3) := by decide +kernel
theorem dX2_faultsAt_73 : decode cX2_faultsAt 73 = .ok (.iload 4, 2) := by decide +kernel
theorem dX2_faultsAt_75 : decode cX2_faultsAt 75 = .ok (.iaload, 1) := by decide +kernel
theorem dX2_faultsAt_76 : decode cX2_faultsAt 76 = .ok (.isub, 1) := by decide +kernel
theorem dX2_faultsAt_77 : decode cX2_faultsAt 77 = .ok (.istore 5, 2) := by decide +kernel
theorem dX2_faultsAt_79 : decode cX2_faultsAt 79 = .ok (.iload 5, 2) := by decide +kernel
theorem dX2_faultsAt_81 : decode cX2_faultsAt 81 = .ok (.iconst (-1), 1) := by decide +kernel
theorem dX2_faultsAt_82 : decode cX2_faultsAt 82 = .ok (.if_icmp .lt 9, 3) := by decide +kernel
theorem dX2_faultsAt_85 : decode cX2_faultsAt 85 = .ok (.iload 5, 2) := by decide +kernel
theorem dX2_faultsAt_87 : decode cX2_faultsAt 87 = .ok (.iconst 1, 1) := by decide +kernel
theorem dX2_faultsAt_88 : decode cX2_faultsAt 88 = .ok (.if_icmp .le 6, 3) := by decide +kernel
theorem dX2_faultsAt_91 : decode cX2_faultsAt 91 = .ok (.iinc 2 1, 3) := by decide +kernel
theorem dX2_faultsAt_94 : decode cX2_faultsAt 94 = .ok (.aload_n 0, 1) := by decide +kernel
theorem dX2_faultsAt_95 : decode cX2_faultsAt 95 = .ok (.getfield 21, 3) := by decide +kernel
theorem dX2_faultsAt_98 : decode cX2_faultsAt 98 = .ok (.iload_n 1, 1) := by decide +kernel
theorem dX2_faultsAt_99 : decode cX2_faultsAt 99 = .ok (.iaload, 1) := by decide +kernel
theorem dX2_faultsAt_100 : decode cX2_faultsAt 100 = .ok (.aload_n 0, 1) := by decide +kernel
theorem dX2_faultsAt_101 : decode cX2_faultsAt 101 = .ok (.iload_n 1, 1) := by decide +kernel
theorem dX2_faultsAt_102 : decode cX2_faultsAt 102 = .ok (.invokevirtual 35, 3) := by decide +kernel
theorem dX2_faultsAt_105 : decode cX2_faultsAt 105 = .ok (.if_icmp .eq 6, 3) := by decide +kernel
theorem dX2_faultsAt_108 : decode cX2_faultsAt 108 = .ok (.iinc 2 1, 3) := by decide +kernel
theorem dX2_faultsAt_111 : decode cX2_faultsAt 111 = .ok (.iload_n 2, 1) := by decide +kernel
theorem dX2_faultsAt_112 : decode cX2_faultsAt 112 = .ok (.ireturn, 1) := by decide +kernel
theorem dX2_branchesOf_0 : decode cX2_branchesOf 0 = .ok (.aload_n 0, 1) := by decide +kernel
theorem dX2_branchesOf_1 : decode cX2_branchesOf 1 = .ok (.getfield 15, 3) := by decide +kernel
theorem dX2_branchesOf_4 : decode cX2_branchesOf 4 = .ok (.iload_n 1, 1) := by decide +kernel
theorem dX2_branchesOf_5 : decode cX2_branchesOf 5 = .ok (.iaload, 1) := by decide +kernel
theorem dX2_branchesOf_6 : decode cX2_branchesOf 6 = .ok (.ifCond .ne 7, 3) := by decide +kernel
theorem dX2_branchesOf_9 : decode cX2_branchesOf 9 = .ok (.iconst 0, 1) := by decide +kernel
theorem dX2_branchesOf_10 : decode cX2_branchesOf 10 = .ok (.goto 4, 3) := by decide +kernel
theorem dX2_branchesOf_13 : decode cX2_branchesOf 13 = .ok (.iconst 1, 1) := by decide +kernel
theorem dX2_branchesOf_14 : decode cX2_branchesOf 14 = .ok (.aload_n 0, 1) := by decide +kernel
theorem dX2_branchesOf_15 : decode cX2_branchesOf 15 = .ok (.getfield 18, 3) := by decide +kernel
theorem dX2_branchesOf_18 : decode cX2_branchesOf 18 = .ok (.iload_n 1, 1) := by decide +kernel
theorem dX2_branchesOf_19 : decode cX2_branchesOf 19 = .ok (.iaload, 1) := by decide +kernel
theorem dX2_branchesOf_20 : decode cX2_branchesOf 20 = .ok (.ifCond .ne 7, 3) := by decide +kernel
theorem dX2_branchesOf_23 : decode cX2_branchesOf 23 = .ok (.iconst 0, 1) := by decide +kernel
theorem dX2_branchesOf_24 : decode cX2_branchesOf 24 = .ok (.goto 4, 3) := by decide +kernel
theorem dX2_branchesOf_27 : decode cX2_branchesOf 27 = .ok (.iconst 1, 1) := by decide +kernel
theorem dX2_branchesOf_28 : decode cX2_branchesOf 28 = .ok (.iadd, 1) := by decide +kernel
theorem dX2_branchesOf_29 : decode cX2_branchesOf 29 = .ok (.ireturn, 1) := by decide +kernel
theorem dX2_descend_0 : decode cX2_descend 0 = .ok (.iconst 0, 1) := by decide +kernel
theorem dX2_descend_1 : decode cX2_descend 1 = .ok (.istore_n 3, 1) := by decide +kernel
theorem dX2_descend_2 : decode cX2_descend 2 = .ok (.iload_n 1, 1) := by decide +kernel
theorem dX2_descend_3 : decode cX2_descend 3 = .ok (.istore 4, 2) := by decide +kernel
theorem dX2_descend_5 : decode cX2_descend 5 = .ok (.iload 4, 2) := by decide +kernel
theorem dX2_descend_7 : decode cX2_descend 7 = .ok (.ifCond .eq 64, 3) := by decide +kernel
theorem dX2_descend_10 : decode cX2_descend 10 = .ok (.iload 4, 2) := by decide +kernel
theorem dX2_descend_12 : decode cX2_descend 12 = .ok (.iload_n 2, 1) := by decide +kernel
theorem dX2_descend_13 : decode cX2_descend 13 = .ok (.if_icmp .eq 58, 3) := by decide +kernel
theorem dX2_descend_16 : decode cX2_descend 16 = .ok (.iload_n 3, 1) := by decide +kernel
theorem dX2_descend_17 : decode cX2_descend 17 = .ok (.bipush 39, 2) := by decide +kernel
theorem dX2_descend_19 : decode cX2_descend 19 = .ok (.if_icmp .ge 52, 3) := by decide +kernel
theorem dX2_descend_22 : decode cX2_descend 22 = .ok (.aload_n 0, 1) := by decide +kernel
theorem dX2_descend_23 : decode cX2_descend 23 = .ok (.getfield 24, 3) := by decide +kernel
theorem dX2_descend_26 : decode cX2_descend 26 = .ok (.iload_n 3, 1) := by decide +kernel
theorem dX2_descend_27 : decode cX2_descend 27 = .ok (.iload 4, 2) := by decide +kernel
theorem dX2_descend_29 : decode cX2_descend 29 = .ok (.iastore, 1) := by decide +kernel
theorem dX2_descend_30 : decode cX2_descend 30 = .ok (.iinc 3 1, 3) := by decide +kernel
theorem dX2_descend_33 : decode cX2_descend 33 = .ok (.aload_n 0, 1) := by decide +kernel
theorem dX2_descend_34 : decode cX2_descend 34 = .ok (.getfield 9, 3) := by decide +kernel
theorem dX2_descend_37 : decode cX2_descend 37 = .ok (.iload_n 2, 1) := by decide +kernel
theorem dX2_descend_38 : decode cX2_descend 38 = .ok (.iaload, 1) := by decide +kernel
theorem dX2_descend_39 : decode cX2_descend 39 = .ok (.aload_n 0, 1) := by decide +kernel
theorem dX2_descend_40 : decode cX2_descend 40 = .ok (.getfield 9, 3) := by decide +kernel
theorem dX2_descend_43 : decode cX2_descend 43 = .ok (.iload 4, 2) := by decide +kernel
theorem dX2_descend_45 : decode cX2_descend 45 = .ok (.iaload, 1) := by decide +kernel
theorem dX2_descend_46 : decode cX2_descend 46 = .ok (.if_icmp .ge 13, 3) := by decide +kernel
theorem dX2_descend_49 : decode cX2_descend 49 = .ok (.aload_n 0, 1) := by decide +kernel
theorem dX2_descend_50 : decode cX2_descend 50 = .ok (.getfield 15, 3) := by decide +kernel
theorem dX2_descend_53 : decode cX2_descend 53 = .ok (.iload 4, 2) := by decide +kernel
theorem dX2_descend_55 : decode cX2_descend 55 = .ok (.iaload, 1) := by decide +kernel
theorem dX2_descend_56 : decode cX2_descend 56 = .ok (.goto 10, 3) := by decide +kernel
theorem dX2_descend_59 : decode cX2_descend 59 = .ok (.aload_n 0, 1) := by decide +kernel
theorem dX2_descend_60 : decode cX2_descend 60 = .ok (.getfield 18, 3) := by decide +kernel
theorem dX2_descend_63 : decode cX2_descend 63 = .ok (.iload 4, 2) := by decide +kernel
theorem dX2_descend_65 : decode cX2_descend 65 = .ok (.iaload, 1) := by decide +kernel
theorem dX2_descend_66 : decode cX2_descend 66 = .ok (.istore 4, 2) := by decide +kernel
theorem dX2_descend_68 : decode cX2_descend 68 = .ok (.goto (-63), 3) := by decide +kernel
theorem dX2_descend_71 : decode cX2_descend 71 = .ok (.iload_n 3, 1) := by decide +kernel
theorem dX2_descend_72 : decode cX2_descend 72 = .ok (.ireturn, 1) := by decide +kernel
theorem dX2_climb_0 : decode cX2_climb 0 = .ok (.iload_n 3, 1) := by decide +kernel
theorem dX2_climb_1 : decode cX2_climb 1 = .ok (.istore 4, 2) := by decide +kernel
theorem dX2_climb_3 : decode cX2_climb 3 = .ok (.iload_n 1, 1) := by decide +kernel
theorem dX2_climb_4 : decode cX2_climb 4 = .ok (.iconst 1, 1) := by decide +kernel
theorem dX2_climb_5 : decode cX2_climb 5 = .ok (.isub, 1) := by decide +kernel
theorem dX2_climb_6 : decode cX2_climb 6 = .ok (.istore 5, 2) := by decide +kernel
theorem dX2_climb_8 : decode cX2_climb 8 = .ok (.iload 5, 2) := by decide +kernel
theorem dX2_climb_10 : decode cX2_climb 10 = .ok (.ifCond .lt 58, 3) := by decide +kernel
theorem dX2_climb_13 : decode cX2_climb 13 = .ok (.aload_n 0, 1) := by decide +kernel
theorem dX2_climb_14 : decode cX2_climb 14 = .ok (.getfield 24, 3) := by decide +kernel
theorem dX2_climb_17 : decode cX2_climb 17 = .ok (.iload 5, 2) := by decide +kernel
theorem dX2_climb_19 : decode cX2_climb 19 = .ok (.iaload, 1) := by decide +kernel
theorem dX2_climb_20 : decode cX2_climb 20 = .ok (.istore 6, 2) := by decide +kernel
theorem dX2_climb_22 : decode cX2_climb 22 = .ok (.iload_n 2, 1) := by decide +kernel
theorem dX2_climb_23 : decode cX2_climb 23 = .ok (.aload_n 0, 1) := by decide +kernel
theorem dX2_climb_24 : decode cX2_climb 24 = .ok (.getfield 9, 3) := by decide +kernel
theorem dX2_climb_27 : decode cX2_climb 27 = .ok (.iload 6, 2) := by decide +kernel
theorem dX2_climb_29 : decode cX2_climb 29 = .ok (.iaload, 1) := by decide +kernel
theorem dX2_climb_30 : decode cX2_climb 30 = .ok (.if_icmp .ge 15, 3) := by decide +kernel
theorem dX2_climb_33 : decode cX2_climb 33 = .ok (.aload_n 0, 1) := by decide +kernel
theorem dX2_climb_34 : decode cX2_climb 34 = .ok (.getfield 15, 3) := by decide +kernel
theorem dX2_climb_37 : decode cX2_climb 37 = .ok (.iload 6, 2) := by decide +kernel
theorem dX2_climb_39 : decode cX2_climb 39 = .ok (.iload 4, 2) := by decide +kernel
theorem dX2_climb_41 : decode cX2_climb 41 = .ok (.iastore, 1) := by decide +kernel
theorem dX2_climb_42 : decode cX2_climb 42 = .ok (.goto 12, 3) := by decide +kernel
theorem dX2_climb_45 : decode cX2_climb 45 = .ok (.aload_n 0, 1) := by decide +kernel
theorem dX2_climb_46 : decode cX2_climb 46 = .ok (.getfield 18, 3) := by decide +kernel
theorem dX2_climb_49 : decode cX2_climb 49 = .ok (.iload 6, 2) := by decide +kernel
theorem dX2_climb_51 : decode cX2_climb 51 = .ok (.iload 4, 2) := by decide +kernel
theorem dX2_climb_53 : decode cX2_climb 53 = .ok (.iastore, 1) := by decide +kernel
theorem dX2_climb_54 : decode cX2_climb 54 = .ok (.aload_n 0, 1) := by decide +kernel
theorem dX2_climb_55 : decode cX2_climb 55 = .ok (.iload 6, 2) := by decide +kernel
theorem dX2_climb_57 : decode cX2_climb 57 = .ok (.invokevirtual 39, 3) := by decide +kernel
theorem dX2_climb_60 : decode cX2_climb 60 = .ok (.istore 4, 2) := by decide +kernel
theorem dX2_climb_62 : decode cX2_climb 62 = .ok (.iinc 5 (-1), 3) := by decide +kernel
theorem dX2_climb_65 : decode cX2_climb 65 = .ok (.goto (-57), 3) := by decide +kernel
theorem dX2_climb_68 : decode cX2_climb 68 = .ok (.iload 4, 2) := by decide +kernel
theorem dX2_climb_70 : decode cX2_climb 70 = .ok (.ireturn, 1) := by decide +kernel
theorem dX2_balance_0 : decode cX2_balance 0 = .ok (.aload_n 0, 1) := by decide +kernel
theorem dX2_balance_1 : decode cX2_balance 1 = .ok (.getfield 21, 3) := by decide +kernel
theorem dX2_balance_4 : decode cX2_balance 4 = .ok (.aload_n 0, 1) := by decide +kernel
theorem dX2_balance_5 : decode cX2_balance 5 = .ok (.getfield 15, 3) := by decide +kernel
theorem dX2_balance_8 : decode cX2_balance 8 = .ok (.iload_n 1, 1) := by decide +kernel
theorem dX2_balance_9 : decode cX2_balance 9 = .ok (.iaload, 1) := by decide +kernel
theorem dX2_balance_10 : decode cX2_balance 10 = .ok (.iaload, 1) := by decide +kernel
theorem dX2_balance_11 : decode cX2_balance 11 = .ok (.aload_n 0, 1) := by decide +kernel
theorem dX2_balance_12 : decode cX2_balance 12 = .ok (.getfield 21, 3) := by decide +kernel
theorem dX2_balance_15 : decode cX2_balance 15 = .ok (.aload_n 0, 1) := by decide +kernel
theorem dX2_balance_16 : decode cX2_balance 16 = .ok (.getfield 18, 3) := by decide +kernel
theorem dX2_balance_19 : decode cX2_balance 19 = .ok (.iload_n 1, 1) := by decide +kernel
theorem dX2_balance_20 : decode cX2_balance 20 = .ok (.iaload, 1) := by decide +kernel
theorem dX2_balance_21 : decode cX2_balance 21 = .ok (.iaload, 1) := by decide +kernel
theorem dX2_balance_22 : decode cX2_balance 22 = .ok (.isub, 1) := by decide +kernel
theorem dX2_balance_23 : decode cX2_balance 23 = .ok (.istore_n 2, 1) := by decide +kernel
theorem dX2_balance_24 : decode cX2_balance 24 = .ok (.iload_n 2, 1) := by decide +kernel
theorem dX2_balance_25 : decode cX2_balance 25 = .ok (.iconst (-1), 1) := by decide +kernel
theorem dX2_balance_26 : decode cX2_balance 26 = .ok (.if_icmp .lt 21, 3) := by decide +kernel
theorem dX2_balance_29 : decode cX2_balance 29 = .ok (.iload_n 2, 1) := by decide +kernel
theorem dX2_balance_30 : decode cX2_balance 30 = .ok (.iconst 1, 1) := by decide +kernel
theorem dX2_balance_31 : decode cX2_balance 31 = .ok (.if_icmp .gt 16, 3) := by decide +kernel
theorem dX2_balance_34 : decode cX2_balance 34 = .ok (.aload_n 0, 1) := by decide +kernel
theorem dX2_balance_35 : decode cX2_balance 35 = .ok (.getfield 21, 3) := by decide +kernel
theorem dX2_balance_38 : decode cX2_balance 38 = .ok (.iload_n 1, 1) := by decide +kernel
theorem dX2_balance_39 : decode cX2_balance 39 = .ok (.aload_n 0, 1) := by decide +kernel
theorem dX2_balance_40 : decode cX2_balance 40 = .ok (.iload_n 1, 1) := by decide +kernel
theorem dX2_balance_41 : decode cX2_balance 41 = .ok (.invokevirtual 35, 3) := by decide +kernel
theorem dX2_balance_44 : decode cX2_balance 44 = .ok (.iastore, 1) := by decide +kernel
theorem dX2_balance_45 : decode cX2_balance 45 = .ok (.iload_n 1, 1) := by decide +kernel
theorem dX2_balance_46 : decode cX2_balance 46 = .ok (.ireturn, 1) := by decide +kernel
theorem dX2_balance_47 : decode cX2_balance 47 = .ok (.iload_n 2, 1) := by decide +kernel
theorem dX2_balance_48 : decode cX2_balance 48 = .ok (.iconst 1, 1) := by decide +kernel
theorem dX2_balance_49 : decode cX2_balance 49 = .ok (.if_icmp .le 11, 3) := by decide +kernel
theorem dX2_balance_52 : decode cX2_balance 52 = .ok (.aload_n 0, 1) := by decide +kernel
theorem dX2_balance_53 : decode cX2_balance 53 = .ok (.iload_n 1, 1) := by decide +kernel
theorem dX2_balance_54 : decode cX2_balance 54 = .ok (.invokevirtual 42, 3) := by decide +kernel
theorem dX2_balance_57 : decode cX2_balance 57 = .ok (.goto 8, 3) := by decide +kernel
theorem dX2_balance_60 : decode cX2_balance 60 = .ok (.aload_n 0, 1) := by decide +kernel
theorem dX2_balance_61 : decode cX2_balance 61 = .ok (.iload_n 1, 1) := by decide +kernel
theorem dX2_balance_62 : decode cX2_balance 62 = .ok (.invokevirtual 45, 3) := by decide +kernel
theorem dX2_balance_65 : decode cX2_balance 65 = .ok (.istore_n 3, 1) := by decide +kernel
theorem dX2_balance_66 : decode cX2_balance 66 = .ok (.aload_n 0, 1) := by decide +kernel
theorem dX2_balance_67 : decode cX2_balance 67 = .ok (.getfield 21, 3) := by decide +kernel
theorem dX2_balance_70 : decode cX2_balance 70 = .ok (.aload_n 0, 1) := by decide +kernel
theorem dX2_balance_71 : decode cX2_balance 71 = .ok (.getfield 15, 3) := by decide +kernel
theorem dX2_balance_74 : decode cX2_balance 74 = .ok (.iload_n 3, 1) := by decide +kernel
theorem dX2_balance_75 : decode cX2_balance 75 = .ok (.iaload, 1) := by decide +kernel
theorem dX2_balance_76 : decode cX2_balance 76 = .ok (.aload_n 0, 1) := by decide +kernel
theorem dX2_balance_77 : decode cX2_balance 77 = .ok (.aload_n 0, 1) := by decide +kernel
theorem dX2_balance_78 : decode cX2_balance 78 = .ok (.getfield 15, 3) := by decide +kernel
theorem dX2_balance_81 : decode cX2_balance 81 = .ok (.iload_n 3, 1) := by decide +kernel
theorem dX2_balance_82 : decode cX2_balance 82 = .ok (.iaload, 1) := by decide +kernel
theorem dX2_balance_83 : decode cX2_balance 83 = .ok (.invokevirtual 35, 3) := by decide +kernel
theorem dX2_balance_86 : decode cX2_balance 86 = .ok (.iastore, 1) := by decide +kernel
theorem dX2_balance_87 : decode cX2_balance 87 = .ok (.aload_n 0, 1) := by decide +kernel
theorem dX2_balance_88 : decode cX2_balance 88 = .ok (.getfield 21, 3) := by decide +kernel
theorem dX2_balance_91 : decode cX2_balance 91 = .ok (.aload_n 0, 1) := by decide +kernel
theorem dX2_balance_92 : decode cX2_balance 92 = .ok (.getfield 18, 3) := by decide +kernel
theorem dX2_balance_95 : decode cX2_balance 95 = .ok (.iload_n 3, 1) := by decide +kernel
theorem dX2_balance_96 : decode cX2_balance 96 = .ok (.iaload, 1) := by decide +kernel
theorem dX2_balance_97 : decode cX2_balance 97 = .ok (.aload_n 0, 1) := by decide +kernel
theorem dX2_balance_98 : decode cX2_balance 98 = .ok (.aload_n 0, 1) := by decide +kernel
theorem dX2_balance_99 : decode cX2_balance 99 = .ok (.getfield 18, 3) := by decide +kernel
theorem dX2_balance_102 : decode cX2_balance 102 = .ok (.iload_n 3, 1) := by decide +kernel
theorem dX2_balance_103 : decode cX2_balance 103 = .ok (.iaload, 1) := by decide +kernel
theorem dX2_balance_104 : decode cX2_balance 104 = .ok (.invokevirtual 35, 3) := by decide +kernel
theorem dX2_balance_107 : decode cX2_balance 107 = .ok (.iastore, 1) := by decide +kernel
theorem dX2_balance_108 : decode cX2_balance 108 = .ok (.aload_n 0, 1) := by decide +kernel
theorem dX2_balance_109 : decode cX2_balance 109 = .ok (.getfield 21, 3) := by decide +kernel
theorem dX2_balance_112 : decode cX2_balance 112 = .ok (.iload_n 3, 1) := by decide +kernel
theorem dX2_balance_113 : decode cX2_balance 113 = .ok (.aload_n 0, 1) := by decide +kernel
theorem dX2_balance_114 : decode cX2_balance 114 = .ok (.iload_n 3, 1) := by decide +kernel
theorem dX2_balance_115 : decode cX2_balance 115 = .ok (.invokevirtual 35, 3) := by decide +kernel
theorem dX2_balance_118 : decode cX2_balance 118 = .ok (.iastore, 1) := by decide +kernel
theorem dX2_balance_119 : decode cX2_balance 119 = .ok (.iload_n 3, 1) := by decide +kernel
theorem dX2_balance_120 : decode cX2_balance 120 = .ok (.ireturn, 1) := by decide +kernel
theorem dX2_liftFromLeft_0 : decode cX2_liftFromLeft 0 = .ok (.aload_n 0, 1) := by decide +kernel
theorem dX2_liftFromLeft_1 : decode cX2_liftFromLeft 1 = .ok (.getfield 15, 3) := by decide +kernel
theorem dX2_liftFromLeft_4 : decode cX2_liftFromLeft 4 = .ok (.iload_n 1, 1) := by decide +kernel
theorem dX2_liftFromLeft_5 : decode cX2_liftFromLeft 5 = .ok (.iaload, 1) := by decide +kernel
theorem dX2_liftFromLeft_6 : decode cX2_liftFromLeft 6 = .ok (.istore_n 2, 1) := by decide +kernel
theorem dX2_liftFromLeft_7 : decode cX2_liftFromLeft 7 = .ok (.iload_n 2, 1) := by decide +kernel
theorem dX2_liftFromLeft_8 : decode cX2_liftFromLeft 8 = .ok (.istore_n 3, 1) := by decide +kernel
theorem dX2_liftFromLeft_9 : decode cX2_liftFromLeft 9 = .ok (.aload_n 0, 1) := by decide +kernel
theorem dX2_liftFromLeft_10 : decode cX2_liftFromLeft 10 = .ok (.getfield 21, 3) := by decide +kernel
theorem dX2_liftFromLeft_13 : decode cX2_liftFromLeft 13 = .ok (.aload_n 0, 1) := by decide +kernel
theorem dX2_liftFromLeft_14 : decode cX2_liftFromLeft 14 = .ok (.getfield 15, 3) := by decide +kernel
theorem dX2_liftFromLeft_17 : decode cX2_liftFromLeft 17 = .ok (.iload_n 2, 1) := by decide +kernel
theorem dX2_liftFromLeft_18 : decode cX2_liftFromLeft 18 = .ok (.iaload, 1) := by decide +kernel
theorem dX2_liftFromLeft_19 : decode cX2_liftFromLeft 19 = .ok (.iaload, 1) := by decide +kernel
theorem dX2_liftFromLeft_20 : decode cX2_liftFromLeft 20 = .ok (.aload_n 0, 1) := by decide +kernel
theorem dX2_liftFromLeft_21 : decode cX2_liftFromLeft 21 = .ok (.getfield 21, 3) := by decide +kernel
theorem dX2_liftFromLeft_24 : decode cX2_liftFromLeft 24 = .ok (.aload_n 0, 1) := by decide +kernel
theorem dX2_liftFromLeft_25 : decode cX2_liftFromLeft 25 = .ok (.getfield 18, 3) := by decide +kernel
theorem dX2_liftFromLeft_28 : decode cX2_liftFromLeft 28 = .ok (.iload_n 2, 1) := by decide +kernel
theorem dX2_liftFromLeft_29 : decode cX2_liftFromLeft 29 = .ok (.iaload, 1) := by decide +kernel
theorem dX2_liftFromLeft_30 : decode cX2_liftFromLeft 30 = .ok (.iaload, 1) := by decide +kernel
theorem dX2_liftFromLeft_31 : decode cX2_liftFromLeft 31 = .ok (.if_icmp .ge 29, 3) := by decide +kernel
theorem dX2_liftFromLeft_34 : decode cX2_liftFromLeft 34 = .ok (.aload_n 0, 1) := by decide +kernel
theorem dX2_liftFromLeft_35 : decode cX2_liftFromLeft 35 = .ok (.getfield 18, 3) := by decide +kernel
theorem dX2_liftFromLeft_38 : decode cX2_liftFromLeft 38 = .ok (.iload_n 2, 1) := by decide +kernel
theorem dX2_liftFromLeft_39 : decode cX2_liftFromLeft 39 = .ok (.iaload, 1) := by decide +kernel
theorem dX2_liftFromLeft_40 : decode cX2_liftFromLeft 40 = .ok (.istore_n 3, 1) := by decide +kernel
theorem dX2_liftFromLeft_41 : decode cX2_liftFromLeft 41 = .ok (.aload_n 0, 1) := by decide +kernel
theorem dX2_liftFromLeft_42 : decode cX2_liftFromLeft 42 = .ok (.getfield 18, 3) := by decide +kernel
theorem dX2_liftFromLeft_45 : decode cX2_liftFromLeft 45 = .ok (.iload_n 2, 1) := by decide +kernel
theorem dX2_liftFromLeft_46 : decode cX2_liftFromLeft 46 = .ok (.aload_n 0, 1) := by decide +kernel
theorem dX2_liftFromLeft_47 : decode cX2_liftFromLeft 47 = .ok (.getfield 15, 3) := by decide +kernel
theorem dX2_liftFromLeft_50 : decode cX2_liftFromLeft 50 = .ok (.iload_n 3, 1) := by decide +kernel
theorem dX2_liftFromLeft_51 : decode cX2_liftFromLeft 51 = .ok (.iaload, 1) := by decide +kernel
theorem dX2_liftFromLeft_52 : decode cX2_liftFromLeft 52 = .ok (.iastore, 1) := by decide +kernel
theorem dX2_liftFromLeft_53 : decode cX2_liftFromLeft 53 = .ok (.aload_n 0, 1) := by decide +kernel
theorem dX2_liftFromLeft_54 : decode cX2_liftFromLeft 54 = .ok (.getfield 15, 3) := by decide +kernel
theorem dX2_liftFromLeft_57 : decode cX2_liftFromLeft 57 = .ok (.iload_n 3, 1) := by decide +kernel
theorem dX2_liftFromLeft_58 : decode cX2_liftFromLeft 58 = .ok (.iload_n 2, 1) := by decide +kernel
theorem dX2_liftFromLeft_59 : decode cX2_liftFromLeft 59 = .ok (.iastore, 1) := by decide +kernel
theorem dX2_liftFromLeft_60 : decode cX2_liftFromLeft 60 = .ok (.aload_n 0, 1) := by decide +kernel
theorem dX2_liftFromLeft_61 : decode cX2_liftFromLeft 61 = .ok (.getfield 15, 3) := by decide +kernel
theorem dX2_liftFromLeft_64 : decode cX2_liftFromLeft 64 = .ok (.iload_n 1, 1) := by decide +kernel
theorem dX2_liftFromLeft_65 : decode cX2_liftFromLeft 65 = .ok (.aload_n 0, 1) := by decide +kernel
theorem dX2_liftFromLeft_66 : decode cX2_liftFromLeft 66 = .ok (.getfield 18, 3) := by decide +kernel
theorem dX2_liftFromLeft_69 : decode cX2_liftFromLeft 69 = .ok (.iload_n 3, 1) := by decide +kernel
theorem dX2_liftFromLeft_70 : decode cX2_liftFromLeft 70 = .ok (.iaload, 1) := by decide +kernel
theorem dX2_liftFromLeft_71 : decode cX2_liftFromLeft 71 = .ok (.iastore, 1) := by decide +kernel
theorem dX2_liftFromLeft_72 : decode cX2_liftFromLeft 72 = .ok (.aload_n 0, 1) := by decide +kernel
theorem dX2_liftFromLeft_73 : decode cX2_liftFromLeft 73 = .ok (.getfield 18, 3) := by decide +kernel
theorem dX2_liftFromLeft_76 : decode cX2_liftFromLeft 76 = .ok (.iload_n 3, 1) := by decide +kernel
theorem dX2_liftFromLeft_77 : decode cX2_liftFromLeft 77 = .ok (.iload_n 1, 1) := by decide +kernel
theorem dX2_liftFromLeft_78 : decode cX2_liftFromLeft 78 = .ok (.iastore, 1) := by decide +kernel
theorem dX2_liftFromLeft_79 : decode cX2_liftFromLeft 79 = .ok (.iload_n 3, 1) := by decide +kernel
theorem dX2_liftFromLeft_80 : decode cX2_liftFromLeft 80 = .ok (.ireturn, 1) := by decide +kernel
theorem dX2_liftFromRight_0 : decode cX2_liftFromRight 0 = .ok (.aload_n 0, 1) := by decide +kernel
theorem dX2_liftFromRight_1 : decode cX2_liftFromRight 1 = .ok (.getfield 18, 3) := by decide +kernel
theorem dX2_liftFromRight_4 : decode cX2_liftFromRight 4 = .ok (.iload_n 1, 1) := by decide +kernel
theorem dX2_liftFromRight_5 : decode cX2_liftFromRight 5 = .ok (.iaload, 1) := by decide +kernel
theorem dX2_liftFromRight_6 : decode cX2_liftFromRight 6 = .ok (.istore_n 2, 1) := by decide +kernel
theorem dX2_liftFromRight_7 : decode cX2_liftFromRight 7 = .ok (.iload_n 2, 1) := by decide +kernel
theorem dX2_liftFromRight_8 : decode cX2_liftFromRight 8 = .ok (.istore_n 3, 1) := by decide +kernel
theorem dX2_liftFromRight_9 : decode cX2_liftFromRight 9 = .ok (.aload_n 0, 1) := by decide +kernel
theorem dX2_liftFromRight_10 : decode cX2_liftFromRight 10 = .ok (.getfield 21, 3) := by decide +kernel
theorem dX2_liftFromRight_13 : decode cX2_liftFromRight 13 = .ok (.aload_n 0, 1) := by decide +kernel
theorem dX2_liftFromRight_14 : decode cX2_liftFromRight 14 = .ok (.getfield 18, 3) := by decide +kernel
theorem dX2_liftFromRight_17 : decode cX2_liftFromRight 17 = .ok (.iload_n 2, 1) := by decide +kernel
theorem dX2_liftFromRight_18 : decode cX2_liftFromRight 18 = .ok (.iaload, 1) := by decide +kernel
theorem dX2_liftFromRight_19 : decode cX2_liftFromRight 19 = .ok (.iaload, 1) := by decide +kernel
theorem dX2_liftFromRight_20 : decode cX2_liftFromRight 20 = .ok (.aload_n 0, 1) := by decide +kernel
theorem dX2_liftFromRight_21 : decode cX2_liftFromRight 21 = .ok (.getfield 21, 3) := by decide +kernel
theorem dX2_liftFromRight_24 : decode cX2_liftFromRight 24 = .ok (.aload_n 0, 1) := by decide +kernel
theorem dX2_liftFromRight_25 : decode cX2_liftFromRight 25 = .ok (.getfield 15, 3) := by decide +kernel
theorem dX2_liftFromRight_28 : decode cX2_liftFromRight 28 = .ok (.iload_n 2, 1) := by decide +kernel
theorem dX2_liftFromRight_29 : decode cX2_liftFromRight 29 = .ok (.iaload, 1) := by decide +kernel
theorem dX2_liftFromRight_30 : decode cX2_liftFromRight 30 = .ok (.iaload, 1) := by decide +kernel
theorem dX2_liftFromRight_31 : decode cX2_liftFromRight 31 = .ok (.if_icmp .ge 29, 3) := by decide +kernel
theorem dX2_liftFromRight_34 : decode cX2_liftFromRight 34 = .ok (.aload_n 0, 1) := by decide +kernel
theorem dX2_liftFromRight_35 : decode cX2_liftFromRight 35 = .ok (.getfield 15, 3) := by decide +kernel
theorem dX2_liftFromRight_38 : decode cX2_liftFromRight 38 = .ok (.iload_n 2, 1) := by decide +kernel
theorem dX2_liftFromRight_39 : decode cX2_liftFromRight 39 = .ok (.iaload, 1) := by decide +kernel
theorem dX2_liftFromRight_40 : decode cX2_liftFromRight 40 = .ok (.istore_n 3, 1) := by decide +kernel
theorem dX2_liftFromRight_41 : decode cX2_liftFromRight 41 = .ok (.aload_n 0, 1) := by decide +kernel
theorem dX2_liftFromRight_42 : decode cX2_liftFromRight 42 = .ok (.getfield 15, 3) := by decide +kernel
theorem dX2_liftFromRight_45 : decode cX2_liftFromRight 45 = .ok (.iload_n 2, 1) := by decide +kernel
theorem dX2_liftFromRight_46 : decode cX2_liftFromRight 46 = .ok (.aload_n 0, 1) := by decide +kernel
theorem dX2_liftFromRight_47 : decode cX2_liftFromRight 47 = .ok (.getfield 18, 3) := by decide +kernel
theorem dX2_liftFromRight_50 : decode cX2_liftFromRight 50 = .ok (.iload_n 3, 1) := by decide +kernel
theorem dX2_liftFromRight_51 : decode cX2_liftFromRight 51 = .ok (.iaload, 1) := by decide +kernel
theorem dX2_liftFromRight_52 : decode cX2_liftFromRight 52 = .ok (.iastore, 1) := by decide +kernel
theorem dX2_liftFromRight_53 : decode cX2_liftFromRight 53 = .ok (.aload_n 0, 1) := by decide +kernel
theorem dX2_liftFromRight_54 : decode cX2_liftFromRight 54 = .ok (.getfield 18, 3) := by decide +kernel
theorem dX2_liftFromRight_57 : decode cX2_liftFromRight 57 = .ok (.iload_n 3, 1) := by decide +kernel
theorem dX2_liftFromRight_58 : decode cX2_liftFromRight 58 = .ok (.iload_n 2, 1) := by decide +kernel
theorem dX2_liftFromRight_59 : decode cX2_liftFromRight 59 = .ok (.iastore, 1) := by decide +kernel
theorem dX2_liftFromRight_60 : decode cX2_liftFromRight 60 = .ok (.aload_n 0, 1) := by decide +kernel
theorem dX2_liftFromRight_61 : decode cX2_liftFromRight 61 = .ok (.getfield 18, 3) := by decide +kernel
theorem dX2_liftFromRight_64 : decode cX2_liftFromRight 64 = .ok (.iload_n 1, 1) := by decide +kernel
theorem dX2_liftFromRight_65 : decode cX2_liftFromRight 65 = .ok (.aload_n 0, 1) := by decide +kernel
theorem dX2_liftFromRight_66 : decode cX2_liftFromRight 66 = .ok (.getfield 15, 3) := by decide +kernel
theorem dX2_liftFromRight_69 : decode cX2_liftFromRight 69 = .ok (.iload_n 3, 1) := by decide +kernel
theorem dX2_liftFromRight_70 : decode cX2_liftFromRight 70 = .ok (.iaload, 1) := by decide +kernel
theorem dX2_liftFromRight_71 : decode cX2_liftFromRight 71 = .ok (.iastore, 1) := by decide +kernel
theorem dX2_liftFromRight_72 : decode cX2_liftFromRight 72 = .ok (.aload_n 0, 1) := by decide +kernel
theorem dX2_liftFromRight_73 : decode cX2_liftFromRight 73 = .ok (.getfield 15, 3) := by decide +kernel
theorem dX2_liftFromRight_76 : decode cX2_liftFromRight 76 = .ok (.iload_n 3, 1) := by decide +kernel
theorem dX2_liftFromRight_77 : decode cX2_liftFromRight 77 = .ok (.iload_n 1, 1) := by decide +kernel
theorem dX2_liftFromRight_78 : decode cX2_liftFromRight 78 = .ok (.iastore, 1) := by decide +kernel
theorem dX2_liftFromRight_79 : decode cX2_liftFromRight 79 = .ok (.iload_n 3, 1) := by decide +kernel
theorem dX2_liftFromRight_80 : decode cX2_liftFromRight 80 = .ok (.ireturn, 1) := by decide +kernel
theorem dX2_heightOver_0 : decode cX2_heightOver 0 = .ok (.aload_n 0, 1) := by decide +kernel
theorem dX2_heightOver_1 : decode cX2_heightOver 1 = .ok (.getfield 21, 3) := by decide +kernel
theorem dX2_heightOver_4 : decode cX2_heightOver 4 = .ok (.aload_n 0, 1) := by decide +kernel
theorem dX2_heightOver_5 : decode cX2_heightOver 5 = .ok (.getfield 15, 3) := by decide +kernel
theorem dX2_heightOver_8 : decode cX2_heightOver 8 = .ok (.iload_n 1, 1) := by decide +kernel
theorem dX2_heightOver_9 : decode cX2_heightOver 9 = .ok (.iaload, 1) := by decide +kernel
theorem dX2_heightOver_10 : decode cX2_heightOver 10 = .ok (.iaload, 1) := by decide +kernel
theorem dX2_heightOver_11 : decode cX2_heightOver 11 = .ok (.istore_n 2, 1) := by decide +kernel
theorem dX2_heightOver_12 : decode cX2_heightOver 12 = .ok (.aload_n 0, 1) := by decide +kernel
theorem dX2_heightOver_13 : decode cX2_heightOver 13 = .ok (.getfield 21, 3) := by decide +kernel
theorem dX2_heightOver_16 : decode cX2_heightOver 16 = .ok (.aload_n 0, 1) := by decide +kernel
theorem dX2_heightOver_17 : decode cX2_heightOver 17 = .ok (.getfield 18, 3) := by decide +kernel
theorem dX2_heightOver_20 : decode cX2_heightOver 20 = .ok (.iload_n 1, 1) := by decide +kernel
theorem dX2_heightOver_21 : decode cX2_heightOver 21 = .ok (.iaload, 1) := by decide +kernel
theorem dX2_heightOver_22 : decode cX2_heightOver 22 = .ok (.iaload, 1) := by decide +kernel
theorem dX2_heightOver_23 : decode cX2_heightOver 23 = .ok (.istore_n 3, 1) := by decide +kernel
theorem dX2_heightOver_24 : decode cX2_heightOver 24 = .ok (.iconst 1, 1) := by decide +kernel
theorem dX2_heightOver_25 : decode cX2_heightOver 25 = .ok (.iload_n 2, 1) := by decide +kernel
theorem dX2_heightOver_26 : decode cX2_heightOver 26 = .ok (.iload_n 3, 1) := by decide +kernel
theorem dX2_heightOver_27 : decode cX2_heightOver 27 = .ok (.if_icmp .lt 7, 3) := by decide +kernel
theorem dX2_heightOver_30 : decode cX2_heightOver 30 = .ok (.iload_n 2, 1) := by decide +kernel
theorem dX2_heightOver_31 : decode cX2_heightOver 31 = .ok (.goto 4, 3) := by decide +kernel
theorem dX2_heightOver_34 : decode cX2_heightOver 34 = .ok (.iload_n 3, 1) := by decide +kernel
theorem dX2_heightOver_35 : decode cX2_heightOver 35 = .ok (.iadd, 1) := by decide +kernel
theorem dX2_heightOver_36 : decode cX2_heightOver 36 = .ok (.ireturn, 1) := by decide +kernel
end
section
abbrev R_Tr_keyOf : Room := { frames := 0, cells := 0, slots := 0, locals := 0 }
set_option maxHeartbeats 4000000 in
set_option maxRecDepth 100000 in
theorem c_Tr_keyOf (ad : Nat → Nat) (cA : ClassId) (s : zT) (a : zS) : xct cA yX2_keyOf cX2_keyOf 2 (some .int) R_Tr_keyOf [.ref (ad 4), .int (zs a)] (wd ad cA s) (some (.int (s.2 0 a))) (wd ad cA (s)) := by
  refine xct_of (own := RX2) (by decide) rfl (Nat.le_of_ble_eq_true rfl) (fun X hX => ?_)
  show xs X cA RX2 cX2_keyOf 2 (some .int) R_Tr_keyOf (wd ad cA s) 0 0 0 [(0, .ref (ad 4)), (1, .int (zs a))] []
  refine xs_aload_n 0 dX2_keyOf_0 rfl ?_
  refine g_Tr_keys dX2_keyOf_1 ?_
  refine xs_iload_n 1 dX2_keyOf_4 rfl ?_
  refine al_I0 dX2_keyOf_5 ?_
  exact xs_iret hX rfl dX2_keyOf_6 rfl rfl
theorem k_Tr_keyOf {X : xz_X} {cA : ClassId} {own : String} {ad : Nat → Nat} {cc : ByteArray} {nL : Nat} {ret : Option FieldType} {R : Room} {s : zT} {pc ix : Nat} {L : List (Nat × Value)} {st : List Value} {a : zS} (d : decode cc pc = .ok (.invokevirtual ix, 3)) (hw : xwV own ix yX2_keyOf cX2_keyOf 2 (some .int) 1) (hR : xroom R_Tr_keyOf 2 R) (hst : (st.map fun v => v.category).sum ≤ 8) (kk : xs X cA own cc nL ret R (wd ad cA (s)) 0 0 (pc + 3) L (.int (s.2 0 a) :: st)) : xs X cA own cc nL ret R (wd ad cA s) 0 0 pc L (.int (zs a) :: .ref (ad 4) :: st) :=
  xs_call 4 (c_Tr_keyOf ad cA s a) rfl rfl d hw hR rfl rfl rfl hst ⟨Nat.zero_le _, Nat.zero_le _⟩ kk
abbrev R_Tr_name : Room := { frames := 0, cells := 0, slots := 0, locals := 0 }
set_option maxHeartbeats 4000000 in
set_option maxRecDepth 100000 in
theorem c_Tr_name (ad : Nat → Nat) (cA : ClassId) (s : zT) (a : zS) (x : Int32) : xct cA yX2_name cX2_name 3 none R_Tr_name [.ref (ad 4), .int (zs a), .int x] (wd ad cA s) none (wd ad cA (u2 s 0 a x)) := by
  refine xct_of (own := RX2) (by decide) rfl (Nat.le_of_ble_eq_true rfl) (fun X hX => ?_)
  show xs X cA RX2 cX2_name 3 none R_Tr_name (wd ad cA s) 0 0 0 [(0, .ref (ad 4)), (1, .int (zs a)), (2, .int x)] []
  refine xs_aload_n 0 dX2_name_0 rfl ?_
  refine g_Tr_keys dX2_name_1 ?_
  refine xs_iload_n 1 dX2_name_4 rfl ?_
  refine xs_iload_n 2 dX2_name_5 rfl ?_
  refine as_I0 dX2_name_6 ?_
  exact xs_vret hX rfl dX2_name_7 rfl
theorem k_Tr_name {X : xz_X} {cA : ClassId} {own : String} {ad : Nat → Nat} {cc : ByteArray} {nL : Nat} {ret : Option FieldType} {R : Room} {s : zT} {pc ix : Nat} {L : List (Nat × Value)} {st : List Value} {a : zS} {x : Int32} (d : decode cc pc = .ok (.invokevirtual ix, 3)) (hw : xwV own ix yX2_name cX2_name 3 none 2) (hR : xroom R_Tr_name 3 R) (hst : (st.map fun v => v.category).sum ≤ 8) (kk : xs X cA own cc nL ret R (wd ad cA (u2 s 0 a x)) 0 0 (pc + 3) L (st)) : xs X cA own cc nL ret R (wd ad cA s) 0 0 pc L (.int x :: .int (zs a) :: .ref (ad 4) :: st) :=
  xs_call 4 (c_Tr_name ad cA s a x) rfl rfl d hw hR rfl rfl rfl hst ⟨Nat.zero_le _, Nat.zero_le _⟩ kk
abbrev R_Tr_heightOf : Room := { frames := 0, cells := 0, slots := 0, locals := 0 }
set_option maxHeartbeats 4000000 in
set_option maxRecDepth 100000 in
theorem c_Tr_heightOf (ad : Nat → Nat) (cA : ClassId) (s : zT) (a : zS) : xct cA yX2_heightOf cX2_heightOf 2 (some .int) R_Tr_heightOf [.ref (ad 4), .int (zs a)] (wd ad cA s) (some (.int (s.2 1 a))) (wd ad cA (s)) := by
  refine xct_of (own := RX2) (by decide) rfl (Nat.le_of_ble_eq_true rfl) (fun X hX => ?_)
  show xs X cA RX2 cX2_heightOf 2 (some .int) R_Tr_heightOf (wd ad cA s) 0 0 0 [(0, .ref (ad 4)), (1, .int (zs a))] []
  refine xs_aload_n 0 dX2_heightOf_0 rfl ?_
  refine g_Tr_heights dX2_heightOf_1 ?_
  refine xs_iload_n 1 dX2_heightOf_4 rfl ?_
  refine al_I1 dX2_heightOf_5 ?_
  exact xs_iret hX rfl dX2_heightOf_6 rfl rfl
theorem k_Tr_heightOf {X : xz_X} {cA : ClassId} {own : String} {ad : Nat → Nat} {cc : ByteArray} {nL : Nat} {ret : Option FieldType} {R : Room} {s : zT} {pc ix : Nat} {L : List (Nat × Value)} {st : List Value} {a : zS} (d : decode cc pc = .ok (.invokevirtual ix, 3)) (hw : xwV own ix yX2_heightOf cX2_heightOf 2 (some .int) 1) (hR : xroom R_Tr_heightOf 2 R) (hst : (st.map fun v => v.category).sum ≤ 8) (kk : xs X cA own cc nL ret R (wd ad cA (s)) 0 0 (pc + 3) L (.int (s.2 1 a) :: st)) : xs X cA own cc nL ret R (wd ad cA s) 0 0 pc L (.int (zs a) :: .ref (ad 4) :: st) :=
  xs_call 4 (c_Tr_heightOf ad cA s a) rfl rfl d hw hR rfl rfl rfl hst ⟨Nat.zero_le _, Nat.zero_le _⟩ kk
abbrev R_Tr_find : Room := { frames := 0, cells := 0, slots := 0, locals := 0 }
set_option maxHeartbeats 4000000 in
set_option maxRecDepth 100000 in
theorem t_Tr_find {X : xz_X} {ad : Nat → Nat} {cA : ClassId} {s : zT} {key : Int32} : ∀ (n i : Nat) (a : zS), i + n = 40 → xfin X cA 0 0 (some (.int (zs (mTr_find s key n a)))) (wd ad cA (s)) → xs X cA RX2 cX2_slotOf 5 (some .int) R_Tr_find (wd ad cA s) 0 0 5 [(4, .int (nI i)), (3, .int (zs a)), (2, .int key), (0, .ref (ad 4))] [] := by
  intro n
  induction n with
  | zero =>
    intro i a hi hX
    refine xs_iload 0 dX2_slotOf_5 rfl ?_
    refine xs_bipush (v := 40) dX2_slotOf_7 (by decide) ?_
    refine xs_icmp_ge (t := 60) dX2_slotOf_9 (by decide) (fun c9 => ?_) (fun c9 => ?_)
    · refine xs_iconst (v := zs 0) dX2_slotOf_60 rfl ?_
      exact xs_iret hX rfl dX2_slotOf_61 rfl rfl
    · exact absurd (show (40 : Int32) ≤ nI i from kn_le (m := 40) (by omega) (by omega)) c9
  | succ n ih =>
    intro i a hi hX
    refine xs_iload 0 dX2_slotOf_5 rfl ?_
    refine xs_bipush (v := 40) dX2_slotOf_7 (by decide) ?_
    refine xs_icmp_ge (t := 60) dX2_slotOf_9 (by decide) (fun c9 => ?_) (fun c9 => ?_)
    · exact absurd c9 (show ¬ (40 : Int32) ≤ nI i from kn_nle (m := 40) (by omega) (by decide))
    · refine xs_iload_n 1 dX2_slotOf_12 rfl ?_
      refine xs_sif_eq (t := 60) dX2_slotOf_13 (by decide) (fun c13 => ?_) (fun c13 => ?_)
      · refine xs_iconst (v := zs 0) dX2_slotOf_60 rfl ?_
        exact xs_iret hX rfl dX2_slotOf_61 (by simp only [mTr_find, if_neg c9, if_pos c13]) rfl
      · refine xs_aload_n 3 dX2_slotOf_16 rfl ?_
        refine g_Tr_keys dX2_slotOf_17 ?_
        refine xs_iload_n 1 dX2_slotOf_20 rfl ?_
        refine al_I0 dX2_slotOf_21 ?_
        refine xs_iload_n 2 dX2_slotOf_22 rfl ?_
        refine xs_icmp_ne (t := 28) dX2_slotOf_23 (by decide) (fun c23 => ?_) (fun c23 => ?_)
        · refine xs_iload_n 2 dX2_slotOf_28 rfl ?_
          refine xs_aload_n 3 dX2_slotOf_29 rfl ?_
          refine g_Tr_keys dX2_slotOf_30 ?_
          refine xs_iload_n 1 dX2_slotOf_33 rfl ?_
          refine al_I0 dX2_slotOf_34 ?_
          refine xs_icmp_ge (t := 47) dX2_slotOf_35 (by decide) (fun c35 => ?_) (fun c35 => ?_)
          · refine xs_aload_n 3 dX2_slotOf_47 rfl ?_
            refine g_Tr_right dX2_slotOf_48 ?_
            refine xs_iload_n 1 dX2_slotOf_51 rfl ?_
            refine al_S7 dX2_slotOf_52 ?_
            refine xs_istore_n (L' := [(3, _), (4, _), (2, _), (0, _)]) dX2_slotOf_53 (by decide) rfl ?_
            refine xs_iinc_n (L' := [(4, _), (3, _), (2, _), (0, _)]) 1 dX2_slotOf_54 rfl (by decide) rfl ?_
            refine xs_goto (t := 5) dX2_slotOf_57 (by decide) ?_
            refine xs_sub (L' := [(4, _), (3, _), (2, _), (0, _)]) [0, 1, 2, 3] rfl ?_
            exact ih _ _ (by omega) (by simp only [mTr_find, if_neg c9, if_neg c13, if_neg c23, if_pos c35] at hX; exact hX)
          · refine xs_aload_n 3 dX2_slotOf_38 rfl ?_
            refine g_Tr_left dX2_slotOf_39 ?_
            refine xs_iload_n 1 dX2_slotOf_42 rfl ?_
            refine al_S6 dX2_slotOf_43 ?_
            refine xs_goto (t := 53) dX2_slotOf_44 (by decide) ?_
            refine xs_istore_n (L' := [(3, _), (4, _), (2, _), (0, _)]) dX2_slotOf_53 (by decide) rfl ?_
            refine xs_iinc_n (L' := [(4, _), (3, _), (2, _), (0, _)]) 1 dX2_slotOf_54 rfl (by decide) rfl ?_
            refine xs_goto (t := 5) dX2_slotOf_57 (by decide) ?_
            refine xs_sub (L' := [(4, _), (3, _), (2, _), (0, _)]) [0, 1, 2, 3] rfl ?_
            exact ih _ _ (by omega) (by simp only [mTr_find, if_neg c9, if_neg c13, if_neg c23, if_neg c35] at hX; exact hX)
        · refine xs_iload_n 1 dX2_slotOf_26 rfl ?_
          exact xs_iret hX rfl dX2_slotOf_27 (by simp only [mTr_find, if_neg c9, if_neg c13, if_pos c23]) rfl
set_option maxHeartbeats 4000000 in
set_option maxRecDepth 100000 in
theorem c_Tr_find (ad : Nat → Nat) (cA : ClassId) (s : zT) (root : zS) (key : Int32) : xct cA yX2_slotOf cX2_slotOf 5 (some .int) R_Tr_find [.ref (ad 4), .int (zs root), .int key] (wd ad cA s) (some (.int (zs (mTr_find s key 40 root)))) (wd ad cA (s)) := by
  refine xct_of (own := RX2) (by decide) rfl (Nat.le_of_ble_eq_true rfl) (fun X hX => ?_)
  show xs X cA RX2 cX2_slotOf 5 (some .int) R_Tr_find (wd ad cA s) 0 0 0 [(0, .ref (ad 4)), (1, .int (zs root)), (2, .int key)] []
  refine xs_iload_n 1 dX2_slotOf_0 rfl ?_
  refine xs_istore_n (L' := [(3, _), (0, _), (1, _), (2, _)]) dX2_slotOf_1 (by decide) rfl ?_
  refine xs_iconst (v := nI 0) dX2_slotOf_2 rfl ?_
  refine xs_istore (L' := [(4, _), (3, _), (0, _), (1, _), (2, _)]) dX2_slotOf_3 (by decide) rfl ?_
  refine xs_sub (L' := [(4, _), (3, _), (2, _), (0, _)]) [0, 1, 4, 2] rfl ?_
  exact t_Tr_find 40 0 _ rfl hX
theorem k_Tr_find {X : xz_X} {cA : ClassId} {own : String} {ad : Nat → Nat} {cc : ByteArray} {nL : Nat} {ret : Option FieldType} {R : Room} {s : zT} {pc ix : Nat} {L : List (Nat × Value)} {st : List Value} {root : zS} {key : Int32} (d : decode cc pc = .ok (.invokevirtual ix, 3)) (hw : xwV own ix yX2_slotOf cX2_slotOf 5 (some .int) 2) (hR : xroom R_Tr_find 5 R) (hst : (st.map fun v => v.category).sum ≤ 8) (kk : xs X cA own cc nL ret R (wd ad cA (s)) 0 0 (pc + 3) L (.int (zs (mTr_find s key 40 root)) :: st)) : xs X cA own cc nL ret R (wd ad cA s) 0 0 pc L (.int key :: .int (zs root) :: .ref (ad 4) :: st) :=
  xs_call 4 (c_Tr_find ad cA s root key) rfl rfl d hw hR rfl rfl rfl hst ⟨Nat.zero_le _, Nat.zero_le _⟩ kk
abbrev R_Tr_over : Room := { frames := 0, cells := 0, slots := 0, locals := 0 }
set_option maxHeartbeats 4000000 in
set_option maxRecDepth 100000 in
theorem c_Tr_over (ad : Nat → Nat) (cA : ClassId) (s : zT) (a : zS) : xct cA yX2_heightOver cX2_heightOver 4 (some .int) R_Tr_over [.ref (ad 4), .int (zs a)] (wd ad cA s) (some (.int (mTr_over s a))) (wd ad cA (s)) := by
  refine xct_of (own := RX2) (by decide) rfl (Nat.le_of_ble_eq_true rfl) (fun X hX => ?_)
  show xs X cA RX2 cX2_heightOver 4 (some .int) R_Tr_over (wd ad cA s) 0 0 0 [(0, .ref (ad 4)), (1, .int (zs a))] []
  refine xs_aload_n 0 dX2_heightOver_0 rfl ?_
  refine g_Tr_heights dX2_heightOver_1 ?_
  refine xs_aload_n 0 dX2_heightOver_4 rfl ?_
  refine g_Tr_left dX2_heightOver_5 ?_
  refine xs_iload_n 1 dX2_heightOver_8 rfl ?_
  refine al_S6 dX2_heightOver_9 ?_
  refine al_I1 dX2_heightOver_10 ?_
  refine xs_istore_n (L' := [(2, _), (0, _), (1, _)]) dX2_heightOver_11 (by decide) rfl ?_
  refine xs_aload_n 1 dX2_heightOver_12 rfl ?_
  refine g_Tr_heights dX2_heightOver_13 ?_
  refine xs_aload_n 1 dX2_heightOver_16 rfl ?_
  refine g_Tr_right dX2_heightOver_17 ?_
  refine xs_iload_n 2 dX2_heightOver_20 rfl ?_
  refine al_S7 dX2_heightOver_21 ?_
  refine al_I1 dX2_heightOver_22 ?_
  refine xs_istore_n (L' := [(3, _), (2, _), (0, _), (1, _)]) dX2_heightOver_23 (by decide) rfl ?_
  refine xs_iconst (v := 1) dX2_heightOver_24 (by decide) ?_
  refine xs_iload_n 1 dX2_heightOver_25 rfl ?_
  refine xs_iload_n 0 dX2_heightOver_26 rfl ?_
  refine xs_icmp_lt (t := 34) dX2_heightOver_27 (by decide) (fun c27 => ?_) (fun c27 => ?_)
  · refine xs_iload_n 0 dX2_heightOver_34 rfl ?_
    refine xs_iadd dX2_heightOver_35 ?_
    exact xs_iret hX rfl dX2_heightOver_36 (by simp only [mTr_over, if_pos c27]) rfl
  · refine xs_iload_n 1 dX2_heightOver_30 rfl ?_
    refine xs_goto (t := 35) dX2_heightOver_31 (by decide) ?_
    refine xs_iadd dX2_heightOver_35 ?_
    exact xs_iret hX rfl dX2_heightOver_36 (by simp only [mTr_over, if_neg c27]) rfl
theorem k_Tr_over {X : xz_X} {cA : ClassId} {own : String} {ad : Nat → Nat} {cc : ByteArray} {nL : Nat} {ret : Option FieldType} {R : Room} {s : zT} {pc ix : Nat} {L : List (Nat × Value)} {st : List Value} {a : zS} (d : decode cc pc = .ok (.invokevirtual ix, 3)) (hw : xwV own ix yX2_heightOver cX2_heightOver 4 (some .int) 1) (hR : xroom R_Tr_over 4 R) (hst : (st.map fun v => v.category).sum ≤ 8) (kk : xs X cA own cc nL ret R (wd ad cA (s)) 0 0 (pc + 3) L (.int (mTr_over s a) :: st)) : xs X cA own cc nL ret R (wd ad cA s) 0 0 pc L (.int (zs a) :: .ref (ad 4) :: st) :=
  xs_call 4 (c_Tr_over ad cA s a) rfl rfl d hw hR rfl rfl rfl hst ⟨Nat.zero_le _, Nat.zero_le _⟩ kk
abbrev R_Tr_liftL : Room := { frames := 0, cells := 0, slots := 0, locals := 0 }
set_option maxHeartbeats 4000000 in
set_option maxRecDepth 100000 in
theorem c_Tr_liftL (ad : Nat → Nat) (cA : ClassId) (s : zT) (t : zS) : xct cA yX2_liftFromLeft cX2_liftFromLeft 4 (some .int) R_Tr_liftL [.ref (ad 4), .int (zs t)] (wd ad cA s) (some (.int (zs ((mTr_liftL s t).1)))) (wd ad cA ((mTr_liftL s t).2)) := by
  refine xct_of (own := RX2) (by decide) rfl (Nat.le_of_ble_eq_true rfl) (fun X hX => ?_)
  show xs X cA RX2 cX2_liftFromLeft 4 (some .int) R_Tr_liftL (wd ad cA s) 0 0 0 [(0, .ref (ad 4)), (1, .int (zs t))] []
  refine xs_aload_n 0 dX2_liftFromLeft_0 rfl ?_
  refine g_Tr_left dX2_liftFromLeft_1 ?_
  refine xs_iload_n 1 dX2_liftFromLeft_4 rfl ?_
  refine al_S6 dX2_liftFromLeft_5 ?_
  refine xs_istore_n (L' := [(2, _), (0, _), (1, _)]) dX2_liftFromLeft_6 (by decide) rfl ?_
  refine xs_iload_n 0 dX2_liftFromLeft_7 rfl ?_
  refine xs_istore_n (L' := [(3, _), (2, _), (0, _), (1, _)]) dX2_liftFromLeft_8 (by decide) rfl ?_
  refine xs_aload_n 2 dX2_liftFromLeft_9 rfl ?_
  refine g_Tr_heights dX2_liftFromLeft_10 ?_
  refine xs_aload_n 2 dX2_liftFromLeft_13 rfl ?_
  refine g_Tr_left dX2_liftFromLeft_14 ?_
  refine xs_iload_n 1 dX2_liftFromLeft_17 rfl ?_
  refine al_S6 dX2_liftFromLeft_18 ?_
  refine al_I1 dX2_liftFromLeft_19 ?_
  refine xs_aload_n 2 dX2_liftFromLeft_20 rfl ?_
  refine g_Tr_heights dX2_liftFromLeft_21 ?_
  refine xs_aload_n 2 dX2_liftFromLeft_24 rfl ?_
  refine g_Tr_right dX2_liftFromLeft_25 ?_
  refine xs_iload_n 1 dX2_liftFromLeft_28 rfl ?_
  refine al_S7 dX2_liftFromLeft_29 ?_
  refine al_I1 dX2_liftFromLeft_30 ?_
  refine xs_icmp_ge (t := 60) dX2_liftFromLeft_31 (by decide) (fun c31 => ?_) (fun c31 => ?_)
  · refine xs_aload_n 2 dX2_liftFromLeft_60 rfl ?_
    refine g_Tr_left dX2_liftFromLeft_61 ?_
    refine xs_iload_n 3 dX2_liftFromLeft_64 rfl ?_
    refine xs_aload_n 2 dX2_liftFromLeft_65 rfl ?_
    refine g_Tr_right dX2_liftFromLeft_66 ?_
    refine xs_iload_n 0 dX2_liftFromLeft_69 rfl ?_
    refine al_S7 dX2_liftFromLeft_70 ?_
    refine as_S6 dX2_liftFromLeft_71 ?_
    refine xs_aload_n 2 dX2_liftFromLeft_72 rfl ?_
    refine g_Tr_right dX2_liftFromLeft_73 ?_
    refine xs_iload_n 0 dX2_liftFromLeft_76 rfl ?_
    refine xs_iload_n 3 dX2_liftFromLeft_77 rfl ?_
    refine as_S7 dX2_liftFromLeft_78 ?_
    refine xs_iload_n 0 dX2_liftFromLeft_79 rfl ?_
    exact xs_iret hX rfl dX2_liftFromLeft_80 (by simp only [mTr_liftL, if_pos c31]) (by simp only [mTr_liftL, if_pos c31])
  · refine xs_aload_n 2 dX2_liftFromLeft_34 rfl ?_
    refine g_Tr_right dX2_liftFromLeft_35 ?_
    refine xs_iload_n 1 dX2_liftFromLeft_38 rfl ?_
    refine al_S7 dX2_liftFromLeft_39 ?_
    refine xs_istore_n (L' := [(3, _), (2, _), (0, _), (1, _)]) dX2_liftFromLeft_40 (by decide) rfl ?_
    refine xs_aload_n 2 dX2_liftFromLeft_41 rfl ?_
    refine g_Tr_right dX2_liftFromLeft_42 ?_
    refine xs_iload_n 1 dX2_liftFromLeft_45 rfl ?_
    refine xs_aload_n 2 dX2_liftFromLeft_46 rfl ?_
    refine g_Tr_left dX2_liftFromLeft_47 ?_
    refine xs_iload_n 0 dX2_liftFromLeft_50 rfl ?_
    refine al_S6 dX2_liftFromLeft_51 ?_
    refine as_S7 dX2_liftFromLeft_52 ?_
    refine xs_aload_n 2 dX2_liftFromLeft_53 rfl ?_
    refine g_Tr_left dX2_liftFromLeft_54 ?_
    refine xs_iload_n 0 dX2_liftFromLeft_57 rfl ?_
    refine xs_iload_n 1 dX2_liftFromLeft_58 rfl ?_
    refine as_S6 dX2_liftFromLeft_59 ?_
    refine xs_aload_n 2 dX2_liftFromLeft_60 rfl ?_
    refine g_Tr_left dX2_liftFromLeft_61 ?_
    refine xs_iload_n 3 dX2_liftFromLeft_64 rfl ?_
    refine xs_aload_n 2 dX2_liftFromLeft_65 rfl ?_
    refine g_Tr_right dX2_liftFromLeft_66 ?_
    refine xs_iload_n 0 dX2_liftFromLeft_69 rfl ?_
    refine al_S7 dX2_liftFromLeft_70 ?_
    refine as_S6 dX2_liftFromLeft_71 ?_
    refine xs_aload_n 2 dX2_liftFromLeft_72 rfl ?_
    refine g_Tr_right dX2_liftFromLeft_73 ?_
    refine xs_iload_n 0 dX2_liftFromLeft_76 rfl ?_
    refine xs_iload_n 3 dX2_liftFromLeft_77 rfl ?_
    refine as_S7 dX2_liftFromLeft_78 ?_
    refine xs_iload_n 0 dX2_liftFromLeft_79 rfl ?_
    exact xs_iret hX rfl dX2_liftFromLeft_80 (by simp only [mTr_liftL, if_neg c31]) (by simp only [mTr_liftL, if_neg c31])
theorem k_Tr_liftL {X : xz_X} {cA : ClassId} {own : String} {ad : Nat → Nat} {cc : ByteArray} {nL : Nat} {ret : Option FieldType} {R : Room} {s : zT} {pc ix : Nat} {L : List (Nat × Value)} {st : List Value} {t : zS} (d : decode cc pc = .ok (.invokevirtual ix, 3)) (hw : xwV own ix yX2_liftFromLeft cX2_liftFromLeft 4 (some .int) 1) (hR : xroom R_Tr_liftL 4 R) (hst : (st.map fun v => v.category).sum ≤ 8) (kk : xs X cA own cc nL ret R (wd ad cA ((mTr_liftL s t).2)) 0 0 (pc + 3) L (.int (zs ((mTr_liftL s t).1)) :: st)) : xs X cA own cc nL ret R (wd ad cA s) 0 0 pc L (.int (zs t) :: .ref (ad 4) :: st) :=
  xs_call 4 (c_Tr_liftL ad cA s t) rfl rfl d hw hR rfl rfl rfl hst ⟨Nat.zero_le _, Nat.zero_le _⟩ kk
abbrev R_Tr_liftR : Room := { frames := 0, cells := 0, slots := 0, locals := 0 }
set_option maxHeartbeats 4000000 in
set_option maxRecDepth 100000 in
theorem c_Tr_liftR (ad : Nat → Nat) (cA : ClassId) (s : zT) (t : zS) : xct cA yX2_liftFromRight cX2_liftFromRight 4 (some .int) R_Tr_liftR [.ref (ad 4), .int (zs t)] (wd ad cA s) (some (.int (zs ((mTr_liftR s t).1)))) (wd ad cA ((mTr_liftR s t).2)) := by
  refine xct_of (own := RX2) (by decide) rfl (Nat.le_of_ble_eq_true rfl) (fun X hX => ?_)
  show xs X cA RX2 cX2_liftFromRight 4 (some .int) R_Tr_liftR (wd ad cA s) 0 0 0 [(0, .ref (ad 4)), (1, .int (zs t))] []
  refine xs_aload_n 0 dX2_liftFromRight_0 rfl ?_
  refine g_Tr_right dX2_liftFromRight_1 ?_
  refine xs_iload_n 1 dX2_liftFromRight_4 rfl ?_
  refine al_S7 dX2_liftFromRight_5 ?_
  refine xs_istore_n (L' := [(2, _), (0, _), (1, _)]) dX2_liftFromRight_6 (by decide) rfl ?_
  refine xs_iload_n 0 dX2_liftFromRight_7 rfl ?_
  refine xs_istore_n (L' := [(3, _), (2, _), (0, _), (1, _)]) dX2_liftFromRight_8 (by decide) rfl ?_
  refine xs_aload_n 2 dX2_liftFromRight_9 rfl ?_
  refine g_Tr_heights dX2_liftFromRight_10 ?_
  refine xs_aload_n 2 dX2_liftFromRight_13 rfl ?_
  refine g_Tr_right dX2_liftFromRight_14 ?_
  refine xs_iload_n 1 dX2_liftFromRight_17 rfl ?_
  refine al_S7 dX2_liftFromRight_18 ?_
  refine al_I1 dX2_liftFromRight_19 ?_
  refine xs_aload_n 2 dX2_liftFromRight_20 rfl ?_
  refine g_Tr_heights dX2_liftFromRight_21 ?_
  refine xs_aload_n 2 dX2_liftFromRight_24 rfl ?_
  refine g_Tr_left dX2_liftFromRight_25 ?_
  refine xs_iload_n 1 dX2_liftFromRight_28 rfl ?_
  refine al_S6 dX2_liftFromRight_29 ?_
  refine al_I1 dX2_liftFromRight_30 ?_
  refine xs_icmp_ge (t := 60) dX2_liftFromRight_31 (by decide) (fun c31 => ?_) (fun c31 => ?_)
  · refine xs_aload_n 2 dX2_liftFromRight_60 rfl ?_
    refine g_Tr_right dX2_liftFromRight_61 ?_
    refine xs_iload_n 3 dX2_liftFromRight_64 rfl ?_
    refine xs_aload_n 2 dX2_liftFromRight_65 rfl ?_
    refine g_Tr_left dX2_liftFromRight_66 ?_
    refine xs_iload_n 0 dX2_liftFromRight_69 rfl ?_
    refine al_S6 dX2_liftFromRight_70 ?_
    refine as_S7 dX2_liftFromRight_71 ?_
    refine xs_aload_n 2 dX2_liftFromRight_72 rfl ?_
    refine g_Tr_left dX2_liftFromRight_73 ?_
    refine xs_iload_n 0 dX2_liftFromRight_76 rfl ?_
    refine xs_iload_n 3 dX2_liftFromRight_77 rfl ?_
    refine as_S6 dX2_liftFromRight_78 ?_
    refine xs_iload_n 0 dX2_liftFromRight_79 rfl ?_
    exact xs_iret hX rfl dX2_liftFromRight_80 (by simp only [mTr_liftR, if_pos c31]) (by simp only [mTr_liftR, if_pos c31])
  · refine xs_aload_n 2 dX2_liftFromRight_34 rfl ?_
    refine g_Tr_left dX2_liftFromRight_35 ?_
    refine xs_iload_n 1 dX2_liftFromRight_38 rfl ?_
    refine al_S6 dX2_liftFromRight_39 ?_
    refine xs_istore_n (L' := [(3, _), (2, _), (0, _), (1, _)]) dX2_liftFromRight_40 (by decide) rfl ?_
    refine xs_aload_n 2 dX2_liftFromRight_41 rfl ?_
    refine g_Tr_left dX2_liftFromRight_42 ?_
    refine xs_iload_n 1 dX2_liftFromRight_45 rfl ?_
    refine xs_aload_n 2 dX2_liftFromRight_46 rfl ?_
    refine g_Tr_right dX2_liftFromRight_47 ?_
    refine xs_iload_n 0 dX2_liftFromRight_50 rfl ?_
    refine al_S7 dX2_liftFromRight_51 ?_
    refine as_S6 dX2_liftFromRight_52 ?_
    refine xs_aload_n 2 dX2_liftFromRight_53 rfl ?_
    refine g_Tr_right dX2_liftFromRight_54 ?_
    refine xs_iload_n 0 dX2_liftFromRight_57 rfl ?_
    refine xs_iload_n 1 dX2_liftFromRight_58 rfl ?_
    refine as_S7 dX2_liftFromRight_59 ?_
    refine xs_aload_n 2 dX2_liftFromRight_60 rfl ?_
    refine g_Tr_right dX2_liftFromRight_61 ?_
    refine xs_iload_n 3 dX2_liftFromRight_64 rfl ?_
    refine xs_aload_n 2 dX2_liftFromRight_65 rfl ?_
    refine g_Tr_left dX2_liftFromRight_66 ?_
    refine xs_iload_n 0 dX2_liftFromRight_69 rfl ?_
    refine al_S6 dX2_liftFromRight_70 ?_
    refine as_S7 dX2_liftFromRight_71 ?_
    refine xs_aload_n 2 dX2_liftFromRight_72 rfl ?_
    refine g_Tr_left dX2_liftFromRight_73 ?_
    refine xs_iload_n 0 dX2_liftFromRight_76 rfl ?_
    refine xs_iload_n 3 dX2_liftFromRight_77 rfl ?_
    refine as_S6 dX2_liftFromRight_78 ?_
    refine xs_iload_n 0 dX2_liftFromRight_79 rfl ?_
    exact xs_iret hX rfl dX2_liftFromRight_80 (by simp only [mTr_liftR, if_neg c31]) (by simp only [mTr_liftR, if_neg c31])
theorem k_Tr_liftR {X : xz_X} {cA : ClassId} {own : String} {ad : Nat → Nat} {cc : ByteArray} {nL : Nat} {ret : Option FieldType} {R : Room} {s : zT} {pc ix : Nat} {L : List (Nat × Value)} {st : List Value} {t : zS} (d : decode cc pc = .ok (.invokevirtual ix, 3)) (hw : xwV own ix yX2_liftFromRight cX2_liftFromRight 4 (some .int) 1) (hR : xroom R_Tr_liftR 4 R) (hst : (st.map fun v => v.category).sum ≤ 8) (kk : xs X cA own cc nL ret R (wd ad cA ((mTr_liftR s t).2)) 0 0 (pc + 3) L (.int (zs ((mTr_liftR s t).1)) :: st)) : xs X cA own cc nL ret R (wd ad cA s) 0 0 pc L (.int (zs t) :: .ref (ad 4) :: st) :=
  xs_call 4 (c_Tr_liftR ad cA s t) rfl rfl d hw hR rfl rfl rfl hst ⟨Nat.zero_le _, Nat.zero_le _⟩ kk
abbrev R_Tr_bal : Room := { frames := 1, cells := 0, slots := 0, locals := 23 }
set_option maxRecDepth 100000 in
theorem kw_Tr_Tr_over : xwV RX2 35 yX2_heightOver cX2_heightOver 4 (some .int) 1 := ⟨⟨xt_of (List.mem_of_getElem? (i := 273) rfl) rfl, xt_of (by decide +kernel) rfl, xt_of (by decide +kernel) rfl, by decide +kernel⟩, xt_of (by decide +kernel) rfl, xt_of (by decide +kernel) rfl⟩
set_option maxRecDepth 100000 in
theorem kw_Tr_Tr_liftL : xwV RX2 42 yX2_liftFromLeft cX2_liftFromLeft 4 (some .int) 1 := ⟨⟨xt_of (List.mem_of_getElem? (i := 455) rfl) rfl, xt_of (by decide +kernel) rfl, xt_of (by decide +kernel) rfl, by decide +kernel⟩, xt_of (by decide +kernel) rfl, xt_of (by decide +kernel) rfl⟩
set_option maxRecDepth 100000 in
theorem kw_Tr_Tr_liftR : xwV RX2 45 yX2_liftFromRight cX2_liftFromRight 4 (some .int) 1 := ⟨⟨xt_of (List.mem_of_getElem? (i := 459) rfl) rfl, xt_of (by decide +kernel) rfl, xt_of (by decide +kernel) rfl, by decide +kernel⟩, xt_of (by decide +kernel) rfl, xt_of (by decide +kernel) rfl⟩
set_option maxHeartbeats 4000000 in
set_option maxRecDepth 100000 in
theorem c_Tr_bal (ad : Nat → Nat) (cA : ClassId) (s : zT) (t : zS) : xct cA yX2_balance cX2_balance 4 (some .int) R_Tr_bal [.ref (ad 4), .int (zs t)] (wd ad cA s) (some (.int (zs ((mTr_bal s t).1)))) (wd ad cA ((mTr_bal s t).2)) := by
  refine xct_of (own := RX2) (by decide) rfl (Nat.le_of_ble_eq_true rfl) (fun X hX => ?_)
  show xs X cA RX2 cX2_balance 4 (some .int) R_Tr_bal (wd ad cA s) 0 0 0 [(0, .ref (ad 4)), (1, .int (zs t))] []
  refine xs_aload_n 0 dX2_balance_0 rfl ?_
  refine g_Tr_heights dX2_balance_1 ?_
  refine xs_aload_n 0 dX2_balance_4 rfl ?_
  refine g_Tr_left dX2_balance_5 ?_
  refine xs_iload_n 1 dX2_balance_8 rfl ?_
  refine al_S6 dX2_balance_9 ?_
  refine al_I1 dX2_balance_10 ?_
  refine xs_aload_n 0 dX2_balance_11 rfl ?_
  refine g_Tr_heights dX2_balance_12 ?_
  refine xs_aload_n 0 dX2_balance_15 rfl ?_
  refine g_Tr_right dX2_balance_16 ?_
  refine xs_iload_n 1 dX2_balance_19 rfl ?_
  refine al_S7 dX2_balance_20 ?_
  refine al_I1 dX2_balance_21 ?_
  refine xs_isub dX2_balance_22 ?_
  refine xs_istore_n (L' := [(2, _), (0, _), (1, _)]) dX2_balance_23 (by decide) rfl ?_
  refine xs_iload_n 0 dX2_balance_24 rfl ?_
  refine xs_iconst (v := (-1)) dX2_balance_25 (by decide) ?_
  refine xs_icmp_lt (t := 47) dX2_balance_26 (by decide) (fun c26 => ?_) (fun c26 => ?_)
  · refine xs_iload_n 0 dX2_balance_47 rfl ?_
    refine xs_iconst (v := 1) dX2_balance_48 (by decide) ?_
    refine xs_icmp_le (t := 60) dX2_balance_49 (by decide) (fun c49 => ?_) (fun c49 => ?_)
    · refine xs_aload_n 1 dX2_balance_60 rfl ?_
      refine xs_iload_n 2 dX2_balance_61 rfl ?_
      refine k_Tr_liftR dX2_balance_62 kw_Tr_Tr_liftR (by decide) (Nat.le_of_ble_eq_true rfl) ?_
      refine xs_istore_n (L' := [(3, _), (2, _), (0, _), (1, _)]) dX2_balance_65 (by decide) rfl ?_
      refine xs_aload_n 2 dX2_balance_66 rfl ?_
      refine g_Tr_heights dX2_balance_67 ?_
      refine xs_aload_n 2 dX2_balance_70 rfl ?_
      refine g_Tr_left dX2_balance_71 ?_
      refine xs_iload_n 0 dX2_balance_74 rfl ?_
      refine al_S6 dX2_balance_75 ?_
      refine xs_aload_n 2 dX2_balance_76 rfl ?_
      refine xs_aload_n 2 dX2_balance_77 rfl ?_
      refine g_Tr_left dX2_balance_78 ?_
      refine xs_iload_n 0 dX2_balance_81 rfl ?_
      refine al_S6 dX2_balance_82 ?_
      refine k_Tr_over dX2_balance_83 kw_Tr_Tr_over (by decide) (Nat.le_of_ble_eq_true rfl) ?_
      refine as_I1 dX2_balance_86 ?_
      refine xs_aload_n 2 dX2_balance_87 rfl ?_
      refine g_Tr_heights dX2_balance_88 ?_
      refine xs_aload_n 2 dX2_balance_91 rfl ?_
      refine g_Tr_right dX2_balance_92 ?_
      refine xs_iload_n 0 dX2_balance_95 rfl ?_
      refine al_S7 dX2_balance_96 ?_
      refine xs_aload_n 2 dX2_balance_97 rfl ?_
      refine xs_aload_n 2 dX2_balance_98 rfl ?_
      refine g_Tr_right dX2_balance_99 ?_
      refine xs_iload_n 0 dX2_balance_102 rfl ?_
      refine al_S7 dX2_balance_103 ?_
      refine k_Tr_over dX2_balance_104 kw_Tr_Tr_over (by decide) (Nat.le_of_ble_eq_true rfl) ?_
      refine as_I1 dX2_balance_107 ?_
      refine xs_aload_n 2 dX2_balance_108 rfl ?_
      refine g_Tr_heights dX2_balance_109 ?_
      refine xs_iload_n 0 dX2_balance_112 rfl ?_
      refine xs_aload_n 2 dX2_balance_113 rfl ?_
      refine xs_iload_n 0 dX2_balance_114 rfl ?_
      refine k_Tr_over dX2_balance_115 kw_Tr_Tr_over (by decide) (Nat.le_of_ble_eq_true rfl) ?_
      refine as_I1 dX2_balance_118 ?_
      refine xs_iload_n 0 dX2_balance_119 rfl ?_
      exact xs_iret hX rfl dX2_balance_120 (by simp only [mTr_bal, mTr_bal2, if_pos c26, if_pos c49]) (by simp only [mTr_bal, mTr_bal2, if_pos c26, if_pos c49])
    · refine xs_aload_n 1 dX2_balance_52 rfl ?_
      refine xs_iload_n 2 dX2_balance_53 rfl ?_
      refine k_Tr_liftL dX2_balance_54 kw_Tr_Tr_liftL (by decide) (Nat.le_of_ble_eq_true rfl) ?_
      refine xs_goto (t := 65) dX2_balance_57 (by decide) ?_
      refine xs_istore_n (L' := [(3, _), (2, _), (0, _), (1, _)]) dX2_balance_65 (by decide) rfl ?_
      refine xs_aload_n 2 dX2_balance_66 rfl ?_
      refine g_Tr_heights dX2_balance_67 ?_
      refine xs_aload_n 2 dX2_balance_70 rfl ?_
      refine g_Tr_left dX2_balance_71 ?_
      refine xs_iload_n 0 dX2_balance_74 rfl ?_
      refine al_S6 dX2_balance_75 ?_
      refine xs_aload_n 2 dX2_balance_76 rfl ?_
      refine xs_aload_n 2 dX2_balance_77 rfl ?_
      refine g_Tr_left dX2_balance_78 ?_
      refine xs_iload_n 0 dX2_balance_81 rfl ?_
      refine al_S6 dX2_balance_82 ?_
      refine k_Tr_over dX2_balance_83 kw_Tr_Tr_over (by decide) (Nat.le_of_ble_eq_true rfl) ?_
      refine as_I1 dX2_balance_86 ?_
      refine xs_aload_n 2 dX2_balance_87 rfl ?_
      refine g_Tr_heights dX2_balance_88 ?_
      refine xs_aload_n 2 dX2_balance_91 rfl ?_
      refine g_Tr_right dX2_balance_92 ?_
      refine xs_iload_n 0 dX2_balance_95 rfl ?_
      refine al_S7 dX2_balance_96 ?_
      refine xs_aload_n 2 dX2_balance_97 rfl ?_
      refine xs_aload_n 2 dX2_balance_98 rfl ?_
      refine g_Tr_right dX2_balance_99 ?_
      refine xs_iload_n 0 dX2_balance_102 rfl ?_
      refine al_S7 dX2_balance_103 ?_
      refine k_Tr_over dX2_balance_104 kw_Tr_Tr_over (by decide) (Nat.le_of_ble_eq_true rfl) ?_
      refine as_I1 dX2_balance_107 ?_
      refine xs_aload_n 2 dX2_balance_108 rfl ?_
      refine g_Tr_heights dX2_balance_109 ?_
      refine xs_iload_n 0 dX2_balance_112 rfl ?_
      refine xs_aload_n 2 dX2_balance_113 rfl ?_
      refine xs_iload_n 0 dX2_balance_114 rfl ?_
      refine k_Tr_over dX2_balance_115 kw_Tr_Tr_over (by decide) (Nat.le_of_ble_eq_true rfl) ?_
      refine as_I1 dX2_balance_118 ?_
      refine xs_iload_n 0 dX2_balance_119 rfl ?_
      exact xs_iret hX rfl dX2_balance_120 (by simp only [mTr_bal, mTr_bal2, if_pos c26, if_neg c49]) (by simp only [mTr_bal, mTr_bal2, if_pos c26, if_neg c49])
  · refine xs_iload_n 0 dX2_balance_29 rfl ?_
    refine xs_iconst (v := 1) dX2_balance_30 (by decide) ?_
    refine xs_icmp_gt (t := 47) dX2_balance_31 (by decide) (fun c31 => ?_) (fun c31 => ?_)
    · refine xs_iload_n 0 dX2_balance_47 rfl ?_
      refine xs_iconst (v := 1) dX2_balance_48 (by decide) ?_
      refine xs_icmp_le (t := 60) dX2_balance_49 (by decide) (fun c49 => ?_) (fun c49 => ?_)
      · refine xs_aload_n 1 dX2_balance_60 rfl ?_
        refine xs_iload_n 2 dX2_balance_61 rfl ?_
        refine k_Tr_liftR dX2_balance_62 kw_Tr_Tr_liftR (by decide) (Nat.le_of_ble_eq_true rfl) ?_
        refine xs_istore_n (L' := [(3, _), (2, _), (0, _), (1, _)]) dX2_balance_65 (by decide) rfl ?_
        refine xs_aload_n 2 dX2_balance_66 rfl ?_
        refine g_Tr_heights dX2_balance_67 ?_
        refine xs_aload_n 2 dX2_balance_70 rfl ?_
        refine g_Tr_left dX2_balance_71 ?_
        refine xs_iload_n 0 dX2_balance_74 rfl ?_
        refine al_S6 dX2_balance_75 ?_
        refine xs_aload_n 2 dX2_balance_76 rfl ?_
        refine xs_aload_n 2 dX2_balance_77 rfl ?_
        refine g_Tr_left dX2_balance_78 ?_
        refine xs_iload_n 0 dX2_balance_81 rfl ?_
        refine al_S6 dX2_balance_82 ?_
        refine k_Tr_over dX2_balance_83 kw_Tr_Tr_over (by decide) (Nat.le_of_ble_eq_true rfl) ?_
        refine as_I1 dX2_balance_86 ?_
        refine xs_aload_n 2 dX2_balance_87 rfl ?_
        refine g_Tr_heights dX2_balance_88 ?_
        refine xs_aload_n 2 dX2_balance_91 rfl ?_
        refine g_Tr_right dX2_balance_92 ?_
        refine xs_iload_n 0 dX2_balance_95 rfl ?_
        refine al_S7 dX2_balance_96 ?_
        refine xs_aload_n 2 dX2_balance_97 rfl ?_
        refine xs_aload_n 2 dX2_balance_98 rfl ?_
        refine g_Tr_right dX2_balance_99 ?_
        refine xs_iload_n 0 dX2_balance_102 rfl ?_
        refine al_S7 dX2_balance_103 ?_
        refine k_Tr_over dX2_balance_104 kw_Tr_Tr_over (by decide) (Nat.le_of_ble_eq_true rfl) ?_
        refine as_I1 dX2_balance_107 ?_
        refine xs_aload_n 2 dX2_balance_108 rfl ?_
        refine g_Tr_heights dX2_balance_109 ?_
        refine xs_iload_n 0 dX2_balance_112 rfl ?_
        refine xs_aload_n 2 dX2_balance_113 rfl ?_
        refine xs_iload_n 0 dX2_balance_114 rfl ?_
        refine k_Tr_over dX2_balance_115 kw_Tr_Tr_over (by decide) (Nat.le_of_ble_eq_true rfl) ?_
        refine as_I1 dX2_balance_118 ?_
        refine xs_iload_n 0 dX2_balance_119 rfl ?_
        exact xs_iret hX rfl dX2_balance_120 (by simp only [mTr_bal, mTr_bal2, if_neg c26, if_pos c31, if_pos c49]) (by simp only [mTr_bal, mTr_bal2, if_neg c26, if_pos c31, if_pos c49])
      · refine xs_aload_n 1 dX2_balance_52 rfl ?_
        refine xs_iload_n 2 dX2_balance_53 rfl ?_
        refine k_Tr_liftL dX2_balance_54 kw_Tr_Tr_liftL (by decide) (Nat.le_of_ble_eq_true rfl) ?_
        refine xs_goto (t := 65) dX2_balance_57 (by decide) ?_
        refine xs_istore_n (L' := [(3, _), (2, _), (0, _), (1, _)]) dX2_balance_65 (by decide) rfl ?_
        refine xs_aload_n 2 dX2_balance_66 rfl ?_
        refine g_Tr_heights dX2_balance_67 ?_
        refine xs_aload_n 2 dX2_balance_70 rfl ?_
        refine g_Tr_left dX2_balance_71 ?_
        refine xs_iload_n 0 dX2_balance_74 rfl ?_
        refine al_S6 dX2_balance_75 ?_
        refine xs_aload_n 2 dX2_balance_76 rfl ?_
        refine xs_aload_n 2 dX2_balance_77 rfl ?_
        refine g_Tr_left dX2_balance_78 ?_
        refine xs_iload_n 0 dX2_balance_81 rfl ?_
        refine al_S6 dX2_balance_82 ?_
        refine k_Tr_over dX2_balance_83 kw_Tr_Tr_over (by decide) (Nat.le_of_ble_eq_true rfl) ?_
        refine as_I1 dX2_balance_86 ?_
        refine xs_aload_n 2 dX2_balance_87 rfl ?_
        refine g_Tr_heights dX2_balance_88 ?_
        refine xs_aload_n 2 dX2_balance_91 rfl ?_
        refine g_Tr_right dX2_balance_92 ?_
        refine xs_iload_n 0 dX2_balance_95 rfl ?_
        refine al_S7 dX2_balance_96 ?_
        refine xs_aload_n 2 dX2_balance_97 rfl ?_
        refine xs_aload_n 2 dX2_balance_98 rfl ?_
        refine g_Tr_right dX2_balance_99 ?_
        refine xs_iload_n 0 dX2_balance_102 rfl ?_
        refine al_S7 dX2_balance_103 ?_
        refine k_Tr_over dX2_balance_104 kw_Tr_Tr_over (by decide) (Nat.le_of_ble_eq_true rfl) ?_
        refine as_I1 dX2_balance_107 ?_
        refine xs_aload_n 2 dX2_balance_108 rfl ?_
        refine g_Tr_heights dX2_balance_109 ?_
        refine xs_iload_n 0 dX2_balance_112 rfl ?_
        refine xs_aload_n 2 dX2_balance_113 rfl ?_
        refine xs_iload_n 0 dX2_balance_114 rfl ?_
        refine k_Tr_over dX2_balance_115 kw_Tr_Tr_over (by decide) (Nat.le_of_ble_eq_true rfl) ?_
        refine as_I1 dX2_balance_118 ?_
        refine xs_iload_n 0 dX2_balance_119 rfl ?_
        exact xs_iret hX rfl dX2_balance_120 (by simp only [mTr_bal, mTr_bal2, if_neg c26, if_pos c31, if_neg c49]) (by simp only [mTr_bal, mTr_bal2, if_neg c26, if_pos c31, if_neg c49])
    · refine xs_aload_n 1 dX2_balance_34 rfl ?_
      refine g_Tr_heights dX2_balance_35 ?_
      refine xs_iload_n 2 dX2_balance_38 rfl ?_
      refine xs_aload_n 1 dX2_balance_39 rfl ?_
      refine xs_iload_n 2 dX2_balance_40 rfl ?_
      refine k_Tr_over dX2_balance_41 kw_Tr_Tr_over (by decide) (Nat.le_of_ble_eq_true rfl) ?_
      refine as_I1 dX2_balance_44 ?_
      refine xs_iload_n 2 dX2_balance_45 rfl ?_
      exact xs_iret hX rfl dX2_balance_46 (by simp only [mTr_bal, mTr_bal2, if_neg c26, if_neg c31]) (by simp only [mTr_bal, mTr_bal2, if_neg c26, if_neg c31])
theorem k_Tr_bal {X : xz_X} {cA : ClassId} {own : String} {ad : Nat → Nat} {cc : ByteArray} {nL : Nat} {ret : Option FieldType} {R : Room} {s : zT} {pc ix : Nat} {L : List (Nat × Value)} {st : List Value} {t : zS} (d : decode cc pc = .ok (.invokevirtual ix, 3)) (hw : xwV own ix yX2_balance cX2_balance 4 (some .int) 1) (hR : xroom R_Tr_bal 4 R) (hst : (st.map fun v => v.category).sum ≤ 8) (kk : xs X cA own cc nL ret R (wd ad cA ((mTr_bal s t).2)) 0 0 (pc + 3) L (.int (zs ((mTr_bal s t).1)) :: st)) : xs X cA own cc nL ret R (wd ad cA s) 0 0 pc L (.int (zs t) :: .ref (ad 4) :: st) :=
  xs_call 4 (c_Tr_bal ad cA s t) rfl rfl d hw hR rfl rfl rfl hst ⟨Nat.zero_le _, Nat.zero_le _⟩ kk
abbrev R_Tr_climb : Room := { frames := 2, cells := 0, slots := 0, locals := 46 }
set_option maxRecDepth 100000 in
theorem kw_Tr_Tr_bal : xwV RX2 39 yX2_balance cX2_balance 4 (some .int) 1 := ⟨⟨xt_of (List.mem_of_getElem? (i := 451) rfl) rfl, xt_of (by decide +kernel) rfl, xt_of (by decide +kernel) rfl, by decide +kernel⟩, xt_of (by decide +kernel) rfl, xt_of (by decide +kernel) rfl⟩
set_option maxHeartbeats 4000000 in
set_option maxRecDepth 100000 in
theorem t_Tr_climb {X : xz_X} {ad : Nat → Nat} {cA : ClassId} {key : Int32} : ∀ (n : Nat) (t : zS) (s : zT), n ≤ 40 → xfin X cA 0 0 (some (.int (zs ((mTr_climb key n t s).1)))) (wd ad cA ((mTr_climb key n t s).2)) → xs X cA RX2 cX2_climb 7 (some .int) R_Tr_climb (wd ad cA s) 0 0 8 [(5, .int (nI n - 1)), (4, .int (zs t)), (2, .int key), (0, .ref (ad 4))] [] := by
  intro n
  induction n with
  | zero =>
    intro t s hn hX
    refine xs_iload 0 dX2_climb_8 rfl ?_
    refine xs_if_lt (t := 68) dX2_climb_10 (by decide) (fun c10 => ?_) (fun c10 => ?_)
    · refine xs_iload 1 dX2_climb_68 rfl ?_
      exact xs_iret hX rfl dX2_climb_70 rfl rfl
    · exact absurd (show nI 0 - 1 < 0 by decide) c10
  | succ n ih =>
    intro t s hn hX
    rw [nI_pred n]
    refine xs_iload 0 dX2_climb_8 rfl ?_
    refine xs_if_lt (t := 68) dX2_climb_10 (by decide) (fun c10 => ?_) (fun c10 => ?_)
    · exact absurd c10 (nI_pos (by omega))
    · refine xs_aload_n 3 dX2_climb_13 rfl ?_
      refine g_Tr_path dX2_climb_14 ?_
      refine xs_iload 0 dX2_climb_17 rfl ?_
      refine aln_S8 dX2_climb_19 (by omega) ?_
      refine xs_istore (L' := [(6, _), (5, _), (4, _), (2, _), (0, _)]) dX2_climb_20 (by decide) rfl ?_
      refine xs_iload_n 3 dX2_climb_22 rfl ?_
      refine xs_aload_n 4 dX2_climb_23 rfl ?_
      refine g_Tr_keys dX2_climb_24 ?_
      refine xs_iload 0 dX2_climb_27 rfl ?_
      refine al_I0 dX2_climb_29 ?_
      refine xs_icmp_ge (t := 45) dX2_climb_30 (by decide) (fun c30 => ?_) (fun c30 => ?_)
      · refine xs_aload_n 4 dX2_climb_45 rfl ?_
        refine g_Tr_right dX2_climb_46 ?_
        refine xs_iload 0 dX2_climb_49 rfl ?_
        refine xs_iload 2 dX2_climb_51 rfl ?_
        refine as_S7 dX2_climb_53 ?_
        refine xs_aload_n 4 dX2_climb_54 rfl ?_
        refine xs_iload 0 dX2_climb_55 rfl ?_
        refine k_Tr_bal dX2_climb_57 kw_Tr_Tr_bal (by decide) (Nat.le_of_ble_eq_true rfl) ?_
        refine xs_istore (L' := [(4, _), (6, _), (5, _), (2, _), (0, _)]) dX2_climb_60 (by decide) rfl ?_
        refine xs_iinc_p (L' := [(5, _), (4, _), (6, _), (2, _), (0, _)]) 2 dX2_climb_62 rfl (by decide) rfl ?_
        refine xs_goto (t := 8) dX2_climb_65 (by decide) ?_
        refine xs_sub (L' := [(5, _), (4, _), (2, _), (0, _)]) [0, 1, 3, 4] rfl ?_
        exact ih _ _ (by omega) (by simp only [mTr_climb, if_neg c10, if_pos c30] at hX; exact hX)
      · refine xs_aload_n 4 dX2_climb_33 rfl ?_
        refine g_Tr_left dX2_climb_34 ?_
        refine xs_iload 0 dX2_climb_37 rfl ?_
        refine xs_iload 2 dX2_climb_39 rfl ?_
        refine as_S6 dX2_climb_41 ?_
        refine xs_goto (t := 54) dX2_climb_42 (by decide) ?_
        refine xs_aload_n 4 dX2_climb_54 rfl ?_
        refine xs_iload 0 dX2_climb_55 rfl ?_
        refine k_Tr_bal dX2_climb_57 kw_Tr_Tr_bal (by decide) (Nat.le_of_ble_eq_true rfl) ?_
        refine xs_istore (L' := [(4, _), (6, _), (5, _), (2, _), (0, _)]) dX2_climb_60 (by decide) rfl ?_
        refine xs_iinc_p (L' := [(5, _), (4, _), (6, _), (2, _), (0, _)]) 2 dX2_climb_62 rfl (by decide) rfl ?_
        refine xs_goto (t := 8) dX2_climb_65 (by decide) ?_
        refine xs_sub (L' := [(5, _), (4, _), (2, _), (0, _)]) [0, 1, 3, 4] rfl ?_
        exact ih _ _ (by omega) (by simp only [mTr_climb, if_neg c10, if_neg c30] at hX; exact hX)
set_option maxHeartbeats 4000000 in
set_option maxRecDepth 100000 in
theorem c_Tr_climb (ad : Nat → Nat) (cA : ClassId) (s : zT) (dp : Nat) (key : Int32) (t : zS) (hd : dp ≤ 40) : xct cA yX2_climb cX2_climb 7 (some .int) R_Tr_climb [.ref (ad 4), .int (nI dp), .int key, .int (zs t)] (wd ad cA s) (some (.int (zs ((mTr_climb key dp t s).1)))) (wd ad cA ((mTr_climb key dp t s).2)) := by
  refine xct_of (own := RX2) (by decide) rfl (Nat.le_of_ble_eq_true rfl) (fun X hX => ?_)
  show xs X cA RX2 cX2_climb 7 (some .int) R_Tr_climb (wd ad cA s) 0 0 0 [(0, .ref (ad 4)), (1, .int (nI dp)), (2, .int key), (3, .int (zs t))] []
  refine xs_iload_n 3 dX2_climb_0 rfl ?_
  refine xs_istore (L' := [(4, _), (0, _), (1, _), (2, _), (3, _)]) dX2_climb_1 (by decide) rfl ?_
  refine xs_iload_n 2 dX2_climb_3 rfl ?_
  refine xs_iconst (v := 1) dX2_climb_4 (by decide) ?_
  refine xs_isub dX2_climb_5 ?_
  refine xs_istore (L' := [(5, _), (4, _), (0, _), (1, _), (2, _), (3, _)]) dX2_climb_6 (by decide) rfl ?_
  refine xs_sub (L' := [(5, _), (4, _), (2, _), (0, _)]) [0, 1, 4, 2] rfl ?_
  exact t_Tr_climb dp _ _ hd hX
theorem k_Tr_climb {X : xz_X} {cA : ClassId} {own : String} {ad : Nat → Nat} {cc : ByteArray} {nL : Nat} {ret : Option FieldType} {R : Room} {s : zT} {pc ix : Nat} {L : List (Nat × Value)} {st : List Value} {dp : Nat} {key : Int32} {t : zS} (d : decode cc pc = .ok (.invokevirtual ix, 3)) (hw : xwV own ix yX2_climb cX2_climb 7 (some .int) 3) (hR : xroom R_Tr_climb 7 R) (hst : (st.map fun v => v.category).sum ≤ 8) (hd : dp ≤ 40) (kk : xs X cA own cc nL ret R (wd ad cA ((mTr_climb key dp t s).2)) 0 0 (pc + 3) L (.int (zs ((mTr_climb key dp t s).1)) :: st)) : xs X cA own cc nL ret R (wd ad cA s) 0 0 pc L (.int (zs t) :: .int key :: .int (nI dp) :: .ref (ad 4) :: st) :=
  xs_call 4 (c_Tr_climb ad cA s dp key t hd) rfl rfl d hw hR rfl rfl rfl hst ⟨Nat.zero_le _, Nat.zero_le _⟩ kk
abbrev R_Tr_desc : Room := { frames := 0, cells := 0, slots := 0, locals := 0 }
set_option maxHeartbeats 4000000 in
set_option maxRecDepth 100000 in
theorem t_Tr_desc {X : xz_X} {ad : Nat → Nat} {cA : ClassId} {b : zS} : ∀ (n d : Nat) (a : zS) (s : zT), d + n = 39 → xfin X cA 0 0 (some (.int (nI ((mTr_desc b n d a s).1)))) (wd ad cA ((mTr_desc b n d a s).2)) → xs X cA RX2 cX2_descend 5 (some .int) R_Tr_desc (wd ad cA s) 0 0 5 [(4, .int (zs a)), (3, .int (nI d)), (2, .int (zs b)), (0, .ref (ad 4))] [] := by
  intro n
  induction n with
  | zero =>
    intro d a s hi hX
    refine xs_iload 0 dX2_descend_5 rfl ?_
    refine xs_sif_eq (t := 71) dX2_descend_7 (by decide) (fun c7 => ?_) (fun c7 => ?_)
    · refine xs_iload_n 1 dX2_descend_71 rfl ?_
      exact xs_iret hX rfl dX2_descend_72 rfl rfl
    · refine xs_iload 0 dX2_descend_10 rfl ?_
      refine xs_iload_n 2 dX2_descend_12 rfl ?_
      refine xs_scmp_eq (t := 71) dX2_descend_13 (by decide) (fun c13 => ?_) (fun c13 => ?_)
      · refine xs_iload_n 1 dX2_descend_71 rfl ?_
        exact xs_iret hX rfl dX2_descend_72 rfl rfl
      · refine xs_iload_n 1 dX2_descend_16 rfl ?_
        refine xs_bipush (v := 39) dX2_descend_17 (by decide) ?_
        refine xs_icmp_ge (t := 71) dX2_descend_19 (by decide) (fun c19 => ?_) (fun c19 => ?_)
        · refine xs_iload_n 1 dX2_descend_71 rfl ?_
          exact xs_iret hX rfl dX2_descend_72 rfl rfl
        · exact absurd (show (39 : Int32) ≤ nI d from kn_le (m := 39) (by omega) (by omega)) c19
  | succ n ih =>
    intro d a s hi hX
    refine xs_iload 0 dX2_descend_5 rfl ?_
    refine xs_sif_eq (t := 71) dX2_descend_7 (by decide) (fun c7 => ?_) (fun c7 => ?_)
    · refine xs_iload_n 1 dX2_descend_71 rfl ?_
      exact xs_iret hX rfl dX2_descend_72 (by simp only [mTr_desc, if_pos c7]) (by simp only [mTr_desc, if_pos c7])
    · refine xs_iload 0 dX2_descend_10 rfl ?_
      refine xs_iload_n 2 dX2_descend_12 rfl ?_
      refine xs_scmp_eq (t := 71) dX2_descend_13 (by decide) (fun c13 => ?_) (fun c13 => ?_)
      · refine xs_iload_n 1 dX2_descend_71 rfl ?_
        exact xs_iret hX rfl dX2_descend_72 (by simp only [mTr_desc, if_neg c7, if_pos c13]) (by simp only [mTr_desc, if_neg c7, if_pos c13])
      · refine xs_iload_n 1 dX2_descend_16 rfl ?_
        refine xs_bipush (v := 39) dX2_descend_17 (by decide) ?_
        refine xs_icmp_ge (t := 71) dX2_descend_19 (by decide) (fun c19 => ?_) (fun c19 => ?_)
        · exact absurd c19 (show ¬ (39 : Int32) ≤ nI d from kn_nle (m := 39) (by omega) (by decide))
        · refine xs_aload_n 3 dX2_descend_22 rfl ?_
          refine g_Tr_path dX2_descend_23 ?_
          refine xs_iload_n 1 dX2_descend_26 rfl ?_
          refine xs_iload 0 dX2_descend_27 rfl ?_
          refine asn_S8 dX2_descend_29 (by omega) ?_
          refine xs_iinc_n (L' := [(3, _), (4, _), (2, _), (0, _)]) 1 dX2_descend_30 rfl (by decide) rfl ?_
          refine xs_aload_n 3 dX2_descend_33 rfl ?_
          refine g_Tr_keys dX2_descend_34 ?_
          refine xs_iload_n 2 dX2_descend_37 rfl ?_
          refine al_I0 dX2_descend_38 ?_
          refine xs_aload_n 3 dX2_descend_39 rfl ?_
          refine g_Tr_keys dX2_descend_40 ?_
          refine xs_iload 1 dX2_descend_43 rfl ?_
          refine al_I0 dX2_descend_45 ?_
          refine xs_icmp_ge (t := 59) dX2_descend_46 (by decide) (fun c46 => ?_) (fun c46 => ?_)
          · refine xs_aload_n 3 dX2_descend_59 rfl ?_
            refine g_Tr_right dX2_descend_60 ?_
            refine xs_iload 1 dX2_descend_63 rfl ?_
            refine al_S7 dX2_descend_65 ?_
            refine xs_istore (L' := [(4, _), (3, _), (2, _), (0, _)]) dX2_descend_66 (by decide) rfl ?_
            refine xs_goto (t := 5) dX2_descend_68 (by decide) ?_
            refine xs_sub (L' := [(4, _), (3, _), (2, _), (0, _)]) [0, 1, 2, 3] rfl ?_
            exact ih _ _ _ (by omega) (by simp only [mTr_desc, if_neg c7, if_neg c13, if_neg c19, if_pos c46] at hX; exact hX)
          · refine xs_aload_n 3 dX2_descend_49 rfl ?_
            refine g_Tr_left dX2_descend_50 ?_
            refine xs_iload 1 dX2_descend_53 rfl ?_
            refine al_S6 dX2_descend_55 ?_
            refine xs_goto (t := 66) dX2_descend_56 (by decide) ?_
            refine xs_istore (L' := [(4, _), (3, _), (2, _), (0, _)]) dX2_descend_66 (by decide) rfl ?_
            refine xs_goto (t := 5) dX2_descend_68 (by decide) ?_
            refine xs_sub (L' := [(4, _), (3, _), (2, _), (0, _)]) [0, 1, 2, 3] rfl ?_
            exact ih _ _ _ (by omega) (by simp only [mTr_desc, if_neg c7, if_neg c13, if_neg c19, if_neg c46] at hX; exact hX)
set_option maxHeartbeats 4000000 in
set_option maxRecDepth 100000 in
theorem c_Tr_desc (ad : Nat → Nat) (cA : ClassId) (s : zT) (root : zS) (b : zS) : xct cA yX2_descend cX2_descend 5 (some .int) R_Tr_desc [.ref (ad 4), .int (zs root), .int (zs b)] (wd ad cA s) (some (.int (nI ((mTr_desc b 39 0 root s).1)))) (wd ad cA ((mTr_desc b 39 0 root s).2)) := by
  refine xct_of (own := RX2) (by decide) rfl (Nat.le_of_ble_eq_true rfl) (fun X hX => ?_)
  show xs X cA RX2 cX2_descend 5 (some .int) R_Tr_desc (wd ad cA s) 0 0 0 [(0, .ref (ad 4)), (1, .int (zs root)), (2, .int (zs b))] []
  refine xs_iconst (v := nI 0) dX2_descend_0 rfl ?_
  refine xs_istore_n (L' := [(3, _), (0, _), (1, _), (2, _)]) dX2_descend_1 (by decide) rfl ?_
  refine xs_iload_n 2 dX2_descend_2 rfl ?_
  refine xs_istore (L' := [(4, _), (3, _), (0, _), (1, _), (2, _)]) dX2_descend_3 (by decide) rfl ?_
  refine xs_sub (L' := [(4, _), (3, _), (2, _), (0, _)]) [0, 1, 4, 2] rfl ?_
  exact t_Tr_desc 39 0 _ _ rfl hX
theorem k_Tr_desc {X : xz_X} {cA : ClassId} {own : String} {ad : Nat → Nat} {cc : ByteArray} {nL : Nat} {ret : Option FieldType} {R : Room} {s : zT} {pc ix : Nat} {L : List (Nat × Value)} {st : List Value} {root : zS} {b : zS} (d : decode cc pc = .ok (.invokevirtual ix, 3)) (hw : xwV own ix yX2_descend cX2_descend 5 (some .int) 2) (hR : xroom R_Tr_desc 5 R) (hst : (st.map fun v => v.category).sum ≤ 8) (kk : xs X cA own cc nL ret R (wd ad cA ((mTr_desc b 39 0 root s).2)) 0 0 (pc + 3) L (.int (nI ((mTr_desc b 39 0 root s).1)) :: st)) : xs X cA own cc nL ret R (wd ad cA s) 0 0 pc L (.int (zs b) :: .int (zs root) :: .ref (ad 4) :: st) :=
  xs_call 4 (c_Tr_desc ad cA s root b) rfl rfl d hw hR rfl rfl rfl hst ⟨Nat.zero_le _, Nat.zero_le _⟩ kk
abbrev R_Tr_with : Room := { frames := 3, cells := 0, slots := 0, locals := 72 }
set_option maxRecDepth 100000 in
theorem kw_Tr_Tr_desc : xwV RX2 27 yX2_descend cX2_descend 5 (some .int) 2 := ⟨⟨xt_of (List.mem_of_getElem? (i := 443) rfl) rfl, xt_of (by decide +kernel) rfl, xt_of (by decide +kernel) rfl, by decide +kernel⟩, xt_of (by decide +kernel) rfl, xt_of (by decide +kernel) rfl⟩
set_option maxRecDepth 100000 in
theorem kw_Tr_Tr_climb : xwV RX2 31 yX2_climb cX2_climb 7 (some .int) 3 := ⟨⟨xt_of (List.mem_of_getElem? (i := 447) rfl) rfl, xt_of (by decide +kernel) rfl, xt_of (by decide +kernel) rfl, by decide +kernel⟩, xt_of (by decide +kernel) rfl, xt_of (by decide +kernel) rfl⟩
set_option maxHeartbeats 4000000 in
set_option maxRecDepth 100000 in
theorem c_Tr_with (ad : Nat → Nat) (cA : ClassId) (s : zT) (root : zS) (a : zS) : xct cA yX2_with cX2_with 4 (some .int) R_Tr_with [.ref (ad 4), .int (zs root), .int (zs a)] (wd ad cA s) (some (.int (zs ((mTr_with s root a).1)))) (wd ad cA ((mTr_with s root a).2)) := by
  refine xct_of (own := RX2) (by decide) rfl (Nat.le_of_ble_eq_true rfl) (fun X hX => ?_)
  show xs X cA RX2 cX2_with 4 (some .int) R_Tr_with (wd ad cA s) 0 0 0 [(0, .ref (ad 4)), (1, .int (zs root)), (2, .int (zs a))] []
  refine xs_aload_n 0 dX2_with_0 rfl ?_
  refine g_Tr_left dX2_with_1 ?_
  refine xs_iload_n 2 dX2_with_4 rfl ?_
  refine xs_iconst (v := zs 0) dX2_with_5 rfl ?_
  refine as_S6 dX2_with_6 ?_
  refine xs_aload_n 0 dX2_with_7 rfl ?_
  refine g_Tr_right dX2_with_8 ?_
  refine xs_iload_n 2 dX2_with_11 rfl ?_
  refine xs_iconst (v := zs 0) dX2_with_12 rfl ?_
  refine as_S7 dX2_with_13 ?_
  refine xs_aload_n 0 dX2_with_14 rfl ?_
  refine g_Tr_heights dX2_with_15 ?_
  refine xs_iload_n 2 dX2_with_18 rfl ?_
  refine xs_iconst (v := 1) dX2_with_19 (by decide) ?_
  refine as_I1 dX2_with_20 ?_
  refine xs_aload_n 0 dX2_with_21 rfl ?_
  refine xs_iload_n 1 dX2_with_22 rfl ?_
  refine xs_iload_n 2 dX2_with_23 rfl ?_
  refine k_Tr_desc dX2_with_24 kw_Tr_Tr_desc (by decide) (Nat.le_of_ble_eq_true rfl) ?_
  refine xs_istore_n (L' := [(3, _), (0, _), (1, _), (2, _)]) dX2_with_27 (by decide) rfl ?_
  refine xs_aload_n 1 dX2_with_28 rfl ?_
  refine xs_iload_n 0 dX2_with_29 rfl ?_
  refine xs_aload_n 1 dX2_with_30 rfl ?_
  refine g_Tr_keys dX2_with_31 ?_
  refine xs_iload_n 3 dX2_with_34 rfl ?_
  refine al_I0 dX2_with_35 ?_
  refine xs_iload_n 3 dX2_with_36 rfl ?_
  refine k_Tr_climb dX2_with_37 kw_Tr_Tr_climb (by decide) (Nat.le_of_ble_eq_true rfl) (Nat.le_trans (desc_le _ _ _ _ _) (by decide)) ?_
  exact xs_iret hX rfl dX2_with_40 rfl rfl
theorem k_Tr_with {X : xz_X} {cA : ClassId} {own : String} {ad : Nat → Nat} {cc : ByteArray} {nL : Nat} {ret : Option FieldType} {R : Room} {s : zT} {pc ix : Nat} {L : List (Nat × Value)} {st : List Value} {root : zS} {a : zS} (d : decode cc pc = .ok (.invokevirtual ix, 3)) (hw : xwV own ix yX2_with cX2_with 4 (some .int) 2) (hR : xroom R_Tr_with 4 R) (hst : (st.map fun v => v.category).sum ≤ 8) (kk : xs X cA own cc nL ret R (wd ad cA ((mTr_with s root a).2)) 0 0 (pc + 3) L (.int (zs ((mTr_with s root a).1)) :: st)) : xs X cA own cc nL ret R (wd ad cA s) 0 0 pc L (.int (zs a) :: .int (zs root) :: .ref (ad 4) :: st) :=
  xs_call 4 (c_Tr_with ad cA s root a) rfl rfl d hw hR rfl rfl rfl hst ⟨Nat.zero_le _, Nat.zero_le _⟩ kk
abbrev R_Tr_without : Room := { frames := 3, cells := 0, slots := 0, locals := 72 }
set_option maxHeartbeats 4000000 in
set_option maxRecDepth 100000 in
theorem t_Tr_wo2 {X : xz_X} {ad : Nat → Nat} {cA : ClassId} {a : zS} : ∀ (q d : Nat) (h : zS) (s : zT), q < 40 → d ≤ 40 → xfin X cA 0 0 (some (.int (zs ((mTr_wo2 s a q d h).1)))) (wd ad cA ((mTr_wo2 s a q d h).2)) → xs X cA RX2 cX2_without 6 (some .int) R_Tr_without (wd ad cA s) 0 0 87 [(5, .int (zs h)), (4, .int (nI q)), (3, .int (nI d)), (2, .int (zs a)), (0, .ref (ad 4))] [] := by
  intro q d h s hq hd hX
  refine xs_aload_n 4 dX2_without_87 rfl ?_
  refine g_Tr_path dX2_without_88 ?_
  refine xs_iload 1 dX2_without_91 rfl ?_
  refine xs_iload 0 dX2_without_93 rfl ?_
  refine asn_S8 dX2_without_95 hq ?_
  refine xs_aload_n 4 dX2_without_96 rfl ?_
  refine g_Tr_left dX2_without_97 ?_
  refine xs_iload 0 dX2_without_100 rfl ?_
  refine xs_aload_n 4 dX2_without_102 rfl ?_
  refine g_Tr_left dX2_without_103 ?_
  refine xs_iload_n 3 dX2_without_106 rfl ?_
  refine al_S6 dX2_without_107 ?_
  refine as_S6 dX2_without_108 ?_
  refine xs_aload_n 4 dX2_without_109 rfl ?_
  refine xs_iload_n 2 dX2_without_110 rfl ?_
  refine xs_aload_n 4 dX2_without_111 rfl ?_
  refine g_Tr_keys dX2_without_112 ?_
  refine xs_iload 0 dX2_without_115 rfl ?_
  refine al_I0 dX2_without_117 ?_
  refine xs_aload_n 4 dX2_without_118 rfl ?_
  refine g_Tr_right dX2_without_119 ?_
  refine xs_iload 0 dX2_without_122 rfl ?_
  refine al_S7 dX2_without_124 ?_
  refine k_Tr_climb dX2_without_125 kw_Tr_Tr_climb (by decide) (Nat.le_of_ble_eq_true rfl) hd ?_
  exact xs_iret hX rfl dX2_without_128 rfl rfl
set_option maxHeartbeats 4000000 in
set_option maxRecDepth 100000 in
theorem t_Tr_heir {X : xz_X} {ad : Nat → Nat} {cA : ClassId} {a : zS} {q : Nat} : ∀ (n d : Nat) (h : zS) (s : zT), q < 40 → d + n = 40 → xfin X cA 0 0 (some (.int (zs ((mTr_wo1 a q n d h s).1)))) (wd ad cA ((mTr_wo1 a q n d h s).2)) → xs X cA RX2 cX2_without 6 (some .int) R_Tr_without (wd ad cA s) 0 0 48 [(5, .int (zs h)), (4, .int (nI q)), (3, .int (nI d)), (2, .int (zs a)), (0, .ref (ad 4))] [] := by
  intro n
  induction n with
  | zero =>
    intro d h s hq hd hX
    refine xs_aload_n 4 dX2_without_48 rfl ?_
    refine g_Tr_left dX2_without_49 ?_
    refine xs_iload 0 dX2_without_52 rfl ?_
    refine al_S6 dX2_without_54 ?_
    refine xs_sif_eq (t := 87) dX2_without_55 (by decide) (fun c55 => ?_) (fun c55 => ?_)
    · refine xs_sub (L' := [(5, _), (4, _), (3, _), (2, _), (0, _)]) [0, 1, 2, 3, 4] rfl ?_
      exact t_Tr_wo2 _ _ _ _ hq (by omega) hX
    · refine xs_iload_n 2 dX2_without_58 rfl ?_
      refine xs_bipush (v := 40) dX2_without_59 (by decide) ?_
      refine xs_icmp_ge (t := 87) dX2_without_61 (by decide) (fun c61 => ?_) (fun c61 => ?_)
      · refine xs_sub (L' := [(5, _), (4, _), (3, _), (2, _), (0, _)]) [0, 1, 2, 3, 4] rfl ?_
        exact t_Tr_wo2 _ _ _ _ hq (by omega) hX
      · exact absurd (show (40 : Int32) ≤ nI d from kn_le (m := 40) (by omega) (by omega)) c61
  | succ n ih =>
    intro d h s hq hd hX
    refine xs_aload_n 4 dX2_without_48 rfl ?_
    refine g_Tr_left dX2_without_49 ?_
    refine xs_iload 0 dX2_without_52 rfl ?_
    refine al_S6 dX2_without_54 ?_
    refine xs_sif_eq (t := 87) dX2_without_55 (by decide) (fun c55 => ?_) (fun c55 => ?_)
    · refine xs_sub (L' := [(5, _), (4, _), (3, _), (2, _), (0, _)]) [0, 1, 2, 3, 4] rfl ?_
      exact t_Tr_wo2 _ _ _ _ hq (by omega) (by simp only [mTr_wo1, mTr_heir, if_pos c55] at hX; exact hX)
    · refine xs_iload_n 2 dX2_without_58 rfl ?_
      refine xs_bipush (v := 40) dX2_without_59 (by decide) ?_
      refine xs_icmp_ge (t := 87) dX2_without_61 (by decide) (fun c61 => ?_) (fun c61 => ?_)
      · exact absurd c61 (show ¬ (40 : Int32) ≤ nI d from kn_nle (m := 40) (by omega) (by decide))
      · refine xs_aload_n 4 dX2_without_64 rfl ?_
        refine g_Tr_path dX2_without_65 ?_
        refine xs_iload_n 2 dX2_without_68 rfl ?_
        refine xs_iload 0 dX2_without_69 rfl ?_
        refine asn_S8 dX2_without_71 (by omega) ?_
        refine xs_iinc_n (L' := [(3, _), (5, _), (4, _), (2, _), (0, _)]) 2 dX2_without_72 rfl (by decide) rfl ?_
        refine xs_aload_n 4 dX2_without_75 rfl ?_
        refine g_Tr_left dX2_without_76 ?_
        refine xs_iload 1 dX2_without_79 rfl ?_
        refine al_S6 dX2_without_81 ?_
        refine xs_istore (L' := [(5, _), (3, _), (4, _), (2, _), (0, _)]) dX2_without_82 (by decide) rfl ?_
        refine xs_goto (t := 48) dX2_without_84 (by decide) ?_
        refine xs_sub (L' := [(5, _), (4, _), (3, _), (2, _), (0, _)]) [0, 2, 1, 3, 4] rfl ?_
        exact ih _ _ _ hq (by omega) (by simp only [mTr_wo1, mTr_heir, if_neg c55, if_neg c61] at hX; exact hX)
set_option maxHeartbeats 4000000 in
set_option maxRecDepth 100000 in
theorem c_Tr_without (ad : Nat → Nat) (cA : ClassId) (s : zT) (root : zS) (a : zS) : xct cA yX2_without cX2_without 6 (some .int) R_Tr_without [.ref (ad 4), .int (zs root), .int (zs a)] (wd ad cA s) (some (.int (zs ((mTr_without s root a).1)))) (wd ad cA ((mTr_without s root a).2)) := by
  refine xct_of (own := RX2) (by decide) rfl (Nat.le_of_ble_eq_true rfl) (fun X hX => ?_)
  show xs X cA RX2 cX2_without 6 (some .int) R_Tr_without (wd ad cA s) 0 0 0 [(0, .ref (ad 4)), (1, .int (zs root)), (2, .int (zs a))] []
  refine xs_aload_n 0 dX2_without_0 rfl ?_
  refine xs_iload_n 1 dX2_without_1 rfl ?_
  refine xs_iload_n 2 dX2_without_2 rfl ?_
  refine k_Tr_desc dX2_without_3 kw_Tr_Tr_desc (by decide) (Nat.le_of_ble_eq_true rfl) ?_
  refine xs_istore_n (L' := [(3, _), (0, _), (1, _), (2, _)]) dX2_without_6 (by decide) rfl ?_
  refine xs_aload_n 1 dX2_without_7 rfl ?_
  refine g_Tr_right dX2_without_8 ?_
  refine xs_iload_n 3 dX2_without_11 rfl ?_
  refine al_S7 dX2_without_12 ?_
  refine xs_sif_ne (t := 34) dX2_without_13 (by decide) (fun c13 => ?_) (fun c13 => ?_)
  · refine xs_iload_n 0 dX2_without_34 rfl ?_
    refine xs_istore (L' := [(4, _), (3, _), (0, _), (1, _), (2, _)]) dX2_without_35 (by decide) rfl ?_
    refine xs_aload_n 2 dX2_without_37 rfl ?_
    refine g_Tr_right dX2_without_38 ?_
    refine xs_iload_n 4 dX2_without_41 rfl ?_
    refine al_S7 dX2_without_42 ?_
    refine xs_istore (L' := [(5, _), (4, _), (3, _), (0, _), (1, _), (2, _)]) dX2_without_43 (by decide) rfl ?_
    refine xs_iinc_n (L' := [(3, _), (5, _), (4, _), (0, _), (1, _), (2, _)]) 2 dX2_without_45 rfl (by decide) rfl ?_
    refine xs_sub (L' := [(5, _), (4, _), (3, _), (2, _), (0, _)]) [1, 2, 0, 5, 3] rfl ?_
    exact t_Tr_heir (39 - (mTr_desc a 39 0 root s).1) _ _ _ (Nat.lt_of_le_of_lt (desc_le _ _ _ _ _) (by decide)) (by have := desc_le a 39 0 root s; omega) (by simp only [mTr_without, if_neg c13] at hX; exact hX)
  · refine xs_aload_n 1 dX2_without_16 rfl ?_
    refine xs_iload_n 0 dX2_without_17 rfl ?_
    refine xs_aload_n 1 dX2_without_18 rfl ?_
    refine g_Tr_keys dX2_without_19 ?_
    refine xs_iload_n 3 dX2_without_22 rfl ?_
    refine al_I0 dX2_without_23 ?_
    refine xs_aload_n 1 dX2_without_24 rfl ?_
    refine g_Tr_left dX2_without_25 ?_
    refine xs_iload_n 3 dX2_without_28 rfl ?_
    refine al_S6 dX2_without_29 ?_
    refine k_Tr_climb dX2_without_30 kw_Tr_Tr_climb (by decide) (Nat.le_of_ble_eq_true rfl) (Nat.le_trans (desc_le _ _ _ _ _) (by decide)) ?_
    exact xs_iret hX rfl dX2_without_33 (by simp only [mTr_without, if_pos c13]) (by simp only [mTr_without, if_pos c13])
theorem k_Tr_without {X : xz_X} {cA : ClassId} {own : String} {ad : Nat → Nat} {cc : ByteArray} {nL : Nat} {ret : Option FieldType} {R : Room} {s : zT} {pc ix : Nat} {L : List (Nat × Value)} {st : List Value} {root : zS} {a : zS} (d : decode cc pc = .ok (.invokevirtual ix, 3)) (hw : xwV own ix yX2_without cX2_without 6 (some .int) 2) (hR : xroom R_Tr_without 6 R) (hst : (st.map fun v => v.category).sum ≤ 8) (kk : xs X cA own cc nL ret R (wd ad cA ((mTr_without s root a).2)) 0 0 (pc + 3) L (.int (zs ((mTr_without s root a).1)) :: st)) : xs X cA own cc nL ret R (wd ad cA s) 0 0 pc L (.int (zs a) :: .int (zs root) :: .ref (ad 4) :: st) :=
  xs_call 4 (c_Tr_without ad cA s root a) rfl rfl d hw hR rfl rfl rfl hst ⟨Nat.zero_le _, Nat.zero_le _⟩ kk
abbrev R_Tr_fa : Room := { frames := 1, cells := 0, slots := 0, locals := 23 }
set_option maxHeartbeats 4000000 in
set_option maxRecDepth 100000 in
theorem t_Tr_fa4 {X : xz_X} {ad : Nat → Nat} {cA : ClassId} {s : zT} {a : zS} : ∀ (x : Int32), xfin X cA 0 0 (some (.int (mTr_fa4 s a x))) (wd ad cA (s)) → xs X cA RX2 cX2_faultsAt 6 (some .int) R_Tr_fa (wd ad cA s) 0 0 94 [(2, .int x), (1, .int (zs a)), (0, .ref (ad 4))] [] := by
  intro x hX
  refine xs_aload_n 2 dX2_faultsAt_94 rfl ?_
  refine g_Tr_heights dX2_faultsAt_95 ?_
  refine xs_iload_n 1 dX2_faultsAt_98 rfl ?_
  refine al_I1 dX2_faultsAt_99 ?_
  refine xs_aload_n 2 dX2_faultsAt_100 rfl ?_
  refine xs_iload_n 1 dX2_faultsAt_101 rfl ?_
  refine k_Tr_over dX2_faultsAt_102 kw_Tr_Tr_over (by decide) (Nat.le_of_ble_eq_true rfl) ?_
  refine xs_icmp_eq (t := 111) dX2_faultsAt_105 (by decide) (fun c105 => ?_) (fun c105 => ?_)
  · refine xs_iload_n 0 dX2_faultsAt_111 rfl ?_
    exact xs_iret hX rfl dX2_faultsAt_112 (by simp only [mTr_fa4, if_pos c105]) rfl
  · refine xs_iinc_1 (L' := [(2, _), (1, _), (0, _)]) 0 dX2_faultsAt_108 rfl (by decide) rfl ?_
    refine xs_iload_n 0 dX2_faultsAt_111 rfl ?_
    exact xs_iret hX rfl dX2_faultsAt_112 (by simp only [mTr_fa4, if_neg c105]) rfl
set_option maxHeartbeats 4000000 in
set_option maxRecDepth 100000 in
theorem t_Tr_fa3 {X : xz_X} {ad : Nat → Nat} {cA : ClassId} {s : zT} {a : zS} : ∀ (x : Int32), xfin X cA 0 0 (some (.int (mTr_fa3 s a x))) (wd ad cA (s)) → xs X cA RX2 cX2_faultsAt 6 (some .int) R_Tr_fa (wd ad cA s) 0 0 63 [(2, .int x), (1, .int (zs a)), (3, .int (zs (s.1 6 a))), (4, .int (zs (s.1 7 a))), (0, .ref (ad 4))] [] := by
  intro x hX
  refine xs_aload_n 4 dX2_faultsAt_63 rfl ?_
  refine g_Tr_heights dX2_faultsAt_64 ?_
  refine xs_iload_n 2 dX2_faultsAt_67 rfl ?_
  refine al_I1 dX2_faultsAt_68 ?_
  refine xs_aload_n 4 dX2_faultsAt_69 rfl ?_
  refine g_Tr_heights dX2_faultsAt_70 ?_
  refine xs_iload 3 dX2_faultsAt_73 rfl ?_
  refine al_I1 dX2_faultsAt_75 ?_
  refine xs_isub dX2_faultsAt_76 ?_
  refine xs_istore (L' := [(5, _), (2, _), (1, _), (3, _), (4, _), (0, _)]) dX2_faultsAt_77 (by decide) rfl ?_
  refine xs_iload 0 dX2_faultsAt_79 rfl ?_
  refine xs_iconst (v := (-1)) dX2_faultsAt_81 (by decide) ?_
  refine xs_icmp_lt (t := 91) dX2_faultsAt_82 (by decide) (fun c82 => ?_) (fun c82 => ?_)
  · refine xs_iinc_1 (L' := [(2, _), (5, _), (1, _), (3, _), (4, _), (0, _)]) 1 dX2_faultsAt_91 rfl (by decide) rfl ?_
    refine xs_sub (L' := [(2, _), (1, _), (0, _)]) [0, 2, 5] rfl ?_
    exact t_Tr_fa4 _ (by simp only [mTr_fa3, if_pos c82] at hX; exact hX)
  · refine xs_iload 0 dX2_faultsAt_85 rfl ?_
    refine xs_iconst (v := 1) dX2_faultsAt_87 (by decide) ?_
    refine xs_icmp_le (t := 94) dX2_faultsAt_88 (by decide) (fun c88 => ?_) (fun c88 => ?_)
    · refine xs_sub (L' := [(2, _), (1, _), (0, _)]) [1, 2, 5] rfl ?_
      exact t_Tr_fa4 _ (by simp only [mTr_fa3, if_neg c82, if_pos c88] at hX; exact hX)
    · refine xs_iinc_1 (L' := [(2, _), (5, _), (1, _), (3, _), (4, _), (0, _)]) 1 dX2_faultsAt_91 rfl (by decide) rfl ?_
      refine xs_sub (L' := [(2, _), (1, _), (0, _)]) [0, 2, 5] rfl ?_
      exact t_Tr_fa4 _ (by simp only [mTr_fa3, if_neg c82, if_neg c88] at hX; exact hX)
set_option maxHeartbeats 4000000 in
set_option maxRecDepth 100000 in
theorem t_Tr_fa2 {X : xz_X} {ad : Nat → Nat} {cA : ClassId} {s : zT} {a : zS} : ∀ (x : Int32), xfin X cA 0 0 (some (.int (mTr_fa2 s a x))) (wd ad cA (s)) → xs X cA RX2 cX2_faultsAt 6 (some .int) R_Tr_fa (wd ad cA s) 0 0 39 [(2, .int x), (1, .int (zs a)), (3, .int (zs (s.1 6 a))), (4, .int (zs (s.1 7 a))), (0, .ref (ad 4))] [] := by
  intro x hX
  refine xs_iload 3 dX2_faultsAt_39 rfl ?_
  refine xs_sif_eq (t := 63) dX2_faultsAt_41 (by decide) (fun c41 => ?_) (fun c41 => ?_)
  · refine xs_sub (L' := [(2, _), (1, _), (3, _), (4, _), (0, _)]) [0, 1, 2, 3, 4] rfl ?_
    exact t_Tr_fa3 _ (by simp only [mTr_fa2, if_pos c41] at hX; exact hX)
  · refine xs_aload_n 4 dX2_faultsAt_44 rfl ?_
    refine g_Tr_keys dX2_faultsAt_45 ?_
    refine xs_iload 3 dX2_faultsAt_48 rfl ?_
    refine al_I0 dX2_faultsAt_50 ?_
    refine xs_aload_n 4 dX2_faultsAt_51 rfl ?_
    refine g_Tr_keys dX2_faultsAt_52 ?_
    refine xs_iload_n 1 dX2_faultsAt_55 rfl ?_
    refine al_I0 dX2_faultsAt_56 ?_
    refine xs_icmp_gt (t := 63) dX2_faultsAt_57 (by decide) (fun c57 => ?_) (fun c57 => ?_)
    · refine xs_sub (L' := [(2, _), (1, _), (3, _), (4, _), (0, _)]) [0, 1, 2, 3, 4] rfl ?_
      exact t_Tr_fa3 _ (by simp only [mTr_fa2, if_neg c41, if_pos c57] at hX; exact hX)
    · refine xs_iinc_1 (L' := [(2, _), (1, _), (3, _), (4, _), (0, _)]) 0 dX2_faultsAt_60 rfl (by decide) rfl ?_
      refine xs_sub (L' := [(2, _), (1, _), (3, _), (4, _), (0, _)]) [0, 1, 2, 3, 4] rfl ?_
      exact t_Tr_fa3 _ (by simp only [mTr_fa2, if_neg c41, if_neg c57] at hX; exact hX)
set_option maxHeartbeats 4000000 in
set_option maxRecDepth 100000 in
theorem c_Tr_fa (ad : Nat → Nat) (cA : ClassId) (s : zT) (a : zS) : xct cA yX2_faultsAt cX2_faultsAt 6 (some .int) R_Tr_fa [.ref (ad 4), .int (zs a)] (wd ad cA s) (some (.int (mTr_fa s a))) (wd ad cA (s)) := by
  refine xct_of (own := RX2) (by decide) rfl (Nat.le_of_ble_eq_true rfl) (fun X hX => ?_)
  show xs X cA RX2 cX2_faultsAt 6 (some .int) R_Tr_fa (wd ad cA s) 0 0 0 [(0, .ref (ad 4)), (1, .int (zs a))] []
  refine xs_iconst (v := 0) dX2_faultsAt_0 (by decide) ?_
  refine xs_istore_n (L' := [(2, _), (0, _), (1, _)]) dX2_faultsAt_1 (by decide) rfl ?_
  refine xs_aload_n 1 dX2_faultsAt_2 rfl ?_
  refine g_Tr_left dX2_faultsAt_3 ?_
  refine xs_iload_n 2 dX2_faultsAt_6 rfl ?_
  refine al_S6 dX2_faultsAt_7 ?_
  refine xs_istore_n (L' := [(3, _), (2, _), (0, _), (1, _)]) dX2_faultsAt_8 (by decide) rfl ?_
  refine xs_aload_n 2 dX2_faultsAt_9 rfl ?_
  refine g_Tr_right dX2_faultsAt_10 ?_
  refine xs_iload_n 3 dX2_faultsAt_13 rfl ?_
  refine al_S7 dX2_faultsAt_14 ?_
  refine xs_istore (L' := [(4, _), (3, _), (2, _), (0, _), (1, _)]) dX2_faultsAt_15 (by decide) rfl ?_
  refine xs_iload_n 1 dX2_faultsAt_17 rfl ?_
  refine xs_sif_eq (t := 39) dX2_faultsAt_18 (by decide) (fun c18 => ?_) (fun c18 => ?_)
  · refine xs_sub (L' := [(2, _), (1, _), (3, _), (4, _), (0, _)]) [2, 4, 1, 0, 3] rfl ?_
    exact t_Tr_fa2 _ (by simp only [mTr_fa, if_pos c18] at hX; exact hX)
  · refine xs_aload_n 3 dX2_faultsAt_21 rfl ?_
    refine g_Tr_keys dX2_faultsAt_22 ?_
    refine xs_iload_n 1 dX2_faultsAt_25 rfl ?_
    refine al_I0 dX2_faultsAt_26 ?_
    refine xs_aload_n 3 dX2_faultsAt_27 rfl ?_
    refine g_Tr_keys dX2_faultsAt_28 ?_
    refine xs_iload_n 4 dX2_faultsAt_31 rfl ?_
    refine al_I0 dX2_faultsAt_32 ?_
    refine xs_icmp_lt (t := 39) dX2_faultsAt_33 (by decide) (fun c33 => ?_) (fun c33 => ?_)
    · refine xs_sub (L' := [(2, _), (1, _), (3, _), (4, _), (0, _)]) [2, 4, 1, 0, 3] rfl ?_
      exact t_Tr_fa2 _ (by simp only [mTr_fa, if_neg c18, if_pos c33] at hX; exact hX)
    · refine xs_iinc_1 (L' := [(2, _), (4, _), (3, _), (0, _), (1, _)]) 2 dX2_faultsAt_36 rfl (by decide) rfl ?_
      refine xs_sub (L' := [(2, _), (1, _), (3, _), (4, _), (0, _)]) [0, 4, 2, 1, 3] rfl ?_
      exact t_Tr_fa2 _ (by simp only [mTr_fa, if_neg c18, if_neg c33] at hX; exact hX)
theorem k_Tr_fa {X : xz_X} {cA : ClassId} {own : String} {ad : Nat → Nat} {cc : ByteArray} {nL : Nat} {ret : Option FieldType} {R : Room} {s : zT} {pc ix : Nat} {L : List (Nat × Value)} {st : List Value} {a : zS} (d : decode cc pc = .ok (.invokevirtual ix, 3)) (hw : xwV own ix yX2_faultsAt cX2_faultsAt 6 (some .int) 1) (hR : xroom R_Tr_fa 6 R) (hst : (st.map fun v => v.category).sum ≤ 8) (kk : xs X cA own cc nL ret R (wd ad cA (s)) 0 0 (pc + 3) L (.int (mTr_fa s a) :: st)) : xs X cA own cc nL ret R (wd ad cA s) 0 0 pc L (.int (zs a) :: .ref (ad 4) :: st) :=
  xs_call 4 (c_Tr_fa ad cA s a) rfl rfl d hw hR rfl rfl rfl hst ⟨Nat.zero_le _, Nat.zero_le _⟩ kk
abbrev R_Tr_br : Room := { frames := 0, cells := 0, slots := 0, locals := 0 }
set_option maxHeartbeats 4000000 in
set_option maxRecDepth 100000 in
theorem c_Tr_br (ad : Nat → Nat) (cA : ClassId) (s : zT) (a : zS) : xct cA yX2_branchesOf cX2_branchesOf 2 (some .int) R_Tr_br [.ref (ad 4), .int (zs a)] (wd ad cA s) (some (.int (mTr_br s a))) (wd ad cA (s)) := by
  refine xct_of (own := RX2) (by decide) rfl (Nat.le_of_ble_eq_true rfl) (fun X hX => ?_)
  show xs X cA RX2 cX2_branchesOf 2 (some .int) R_Tr_br (wd ad cA s) 0 0 0 [(0, .ref (ad 4)), (1, .int (zs a))] []
  refine xs_aload_n 0 dX2_branchesOf_0 rfl ?_
  refine g_Tr_left dX2_branchesOf_1 ?_
  refine xs_iload_n 1 dX2_branchesOf_4 rfl ?_
  refine al_S6 dX2_branchesOf_5 ?_
  refine xs_sif_ne (t := 13) dX2_branchesOf_6 (by decide) (fun c6 => ?_) (fun c6 => ?_)
  · refine xs_iconst (v := 1) dX2_branchesOf_13 (by decide) ?_
    refine xs_aload_n 0 dX2_branchesOf_14 rfl ?_
    refine g_Tr_right dX2_branchesOf_15 ?_
    refine xs_iload_n 1 dX2_branchesOf_18 rfl ?_
    refine al_S7 dX2_branchesOf_19 ?_
    refine xs_sif_ne (t := 27) dX2_branchesOf_20 (by decide) (fun c20 => ?_) (fun c20 => ?_)
    · refine xs_iconst (v := 1) dX2_branchesOf_27 (by decide) ?_
      refine xs_iadd dX2_branchesOf_28 ?_
      exact xs_iret hX rfl dX2_branchesOf_29 (by simp only [mTr_br, if_neg c6, if_neg c20]) rfl
    · refine xs_iconst (v := 0) dX2_branchesOf_23 (by decide) ?_
      refine xs_goto (t := 28) dX2_branchesOf_24 (by decide) ?_
      refine xs_iadd dX2_branchesOf_28 ?_
      exact xs_iret hX rfl dX2_branchesOf_29 (by simp only [mTr_br, if_neg c6, if_pos c20]) rfl
  · refine xs_iconst (v := 0) dX2_branchesOf_9 (by decide) ?_
    refine xs_goto (t := 14) dX2_branchesOf_10 (by decide) ?_
    refine xs_aload_n 0 dX2_branchesOf_14 rfl ?_
    refine g_Tr_right dX2_branchesOf_15 ?_
    refine xs_iload_n 1 dX2_branchesOf_18 rfl ?_
    refine al_S7 dX2_branchesOf_19 ?_
    refine xs_sif_ne (t := 27) dX2_branchesOf_20 (by decide) (fun c20 => ?_) (fun c20 => ?_)
    · refine xs_iconst (v := 1) dX2_branchesOf_27 (by decide) ?_
      refine xs_iadd dX2_branchesOf_28 ?_
      exact xs_iret hX rfl dX2_branchesOf_29 (by simp only [mTr_br, if_pos c6, if_neg c20]) rfl
    · refine xs_iconst (v := 0) dX2_branchesOf_23 (by decide) ?_
      refine xs_goto (t := 28) dX2_branchesOf_24 (by decide) ?_
      refine xs_iadd dX2_branchesOf_28 ?_
      exact xs_iret hX rfl dX2_branchesOf_29 (by simp only [mTr_br, if_pos c6, if_pos c20]) rfl
theorem k_Tr_br {X : xz_X} {cA : ClassId} {own : String} {ad : Nat → Nat} {cc : ByteArray} {nL : Nat} {ret : Option FieldType} {R : Room} {s : zT} {pc ix : Nat} {L : List (Nat × Value)} {st : List Value} {a : zS} (d : decode cc pc = .ok (.invokevirtual ix, 3)) (hw : xwV own ix yX2_branchesOf cX2_branchesOf 2 (some .int) 1) (hR : xroom R_Tr_br 2 R) (hst : (st.map fun v => v.category).sum ≤ 8) (kk : xs X cA own cc nL ret R (wd ad cA (s)) 0 0 (pc + 3) L (.int (mTr_br s a) :: st)) : xs X cA own cc nL ret R (wd ad cA s) 0 0 pc L (.int (zs a) :: .ref (ad 4) :: st) :=
  xs_call 4 (c_Tr_br ad cA s a) rfl rfl d hw hR rfl rfl rfl hst ⟨Nat.zero_le _, Nat.zero_le _⟩ kk
end
section
theorem dX0_init_0 : decode cX0_init 0 = .ok (.aload_n 0, 1) := by decide +kernel
theorem dX0_init_1 : decode cX0_init 1 = .ok (.invokespecial 3, 3) := by decide +kernel
theorem dX0_init_4 : decode cX0_init 4 = .ok (.aload_n 0, 1) := by decide +kernel
theorem dX0_init_5 : decode cX0_init 5 = .ok (.new 9, 3) := by decide +kernel
theorem dX0_init_8 : decode cX0_init 8 = .ok (.dup, 1) := by decide +kernel
theorem dX0_init_9 : decode cX0_init 9 = .ok (.invokespecial 11, 3) := by decide +kernel
theorem dX0_init_12 : decode cX0_init 12 = .ok (.putfield 12, 3) := by decide +kernel
theorem dX0_init_15 : decode cX0_init 15 = .ok (.aload_n 0, 1) := by decide +kernel
theorem dX0_init_16 : decode cX0_init 16 = .ok (.sipush 2002, 3) := by decide +kernel
theorem dX0_init_19 : decode cX0_init 19 = .ok (.newarray .int, 2) := by decide +kernel
theorem dX0_init_21 : decode cX0_init 21 = .ok (.putfield 18, 3) := by decide +kernel
theorem dX0_init_24 : decode cX0_init 24 = .ok (.aload_n 0, 1) := by decide +kernel
theorem dX0_init_25 : decode cX0_init 25 = .ok (.sipush 2002, 3) := by decide +kernel
theorem dX0_init_28 : decode cX0_init 28 = .ok (.newarray .int, 2) := by decide +kernel
theorem dX0_init_30 : decode cX0_init 30 = .ok (.putfield 22, 3) := by decide +kernel
theorem dX0_init_33 : decode cX0_init 33 = .ok (.aload_n 0, 1) := by decide +kernel
theorem dX0_init_34 : decode cX0_init 34 = .ok (.sipush 4096, 3) := by decide +kernel
theorem dX0_init_37 : decode cX0_init 37 = .ok (.newarray .int, 2) := by decide +kernel
theorem dX0_init_39 : decode cX0_init 39 = .ok (.putfield 25, 3) := by decide +kernel
theorem dX0_init_42 : decode cX0_init 42 = .ok (.aload_n 0, 1) := by decide +kernel
theorem dX0_init_43 : decode cX0_init 43 = .ok (.sipush 4096, 3) := by decide +kernel
theorem dX0_init_46 : decode cX0_init 46 = .ok (.newarray .int, 2) := by decide +kernel
theorem dX0_init_48 : decode cX0_init 48 = .ok (.putfield 28, 3) := by decide +kernel
theorem dX0_init_51 : decode cX0_init 51 = .ok (.aload_n 0, 1) := by decide +kernel
theorem dX0_init_52 : decode cX0_init 52 = .ok (.bipush 16, 2) := by decide +kernel
theorem dX0_init_54 : decode cX0_init 54 = .ok (.putfield 31, 3) := by decide +kernel
theorem dX0_init_57 : decode cX0_init 57 = .ok (.aload_n 0, 1) := by decide +kernel
theorem dX0_init_58 : decode cX0_init 58 = .ok (.iconst 0, 1) := by decide +kernel
theorem dX0_init_59 : decode cX0_init 59 = .ok (.putfield 35, 3) := by decide +kernel
theorem dX0_init_62 : decode cX0_init 62 = .ok (.return_, 1) := by decide +kernel
theorem dX0_begin_0 : decode cX0_begin 0 = .ok (.aload_n 0, 1) := by decide +kernel
theorem dX0_begin_1 : decode cX0_begin 1 = .ok (.invokevirtual 38, 3) := by decide +kernel
theorem dX0_begin_4 : decode cX0_begin 4 = .ok (.aload_n 0, 1) := by decide +kernel
theorem dX0_begin_5 : decode cX0_begin 5 = .ok (.bipush 16, 2) := by decide +kernel
theorem dX0_begin_7 : decode cX0_begin 7 = .ok (.putfield 31, 3) := by decide +kernel
theorem dX0_begin_10 : decode cX0_begin 10 = .ok (.aload_n 0, 1) := by decide +kernel
theorem dX0_begin_11 : decode cX0_begin 11 = .ok (.iload_n 1, 1) := by decide +kernel
theorem dX0_begin_12 : decode cX0_begin 12 = .ok (.putfield 35, 3) := by decide +kernel
theorem dX0_begin_15 : decode cX0_begin 15 = .ok (.return_, 1) := by decide +kernel
theorem dX0_drain_0 : decode cX0_drain 0 = .ok (.aload_n 0, 1) := by decide +kernel
theorem dX0_drain_1 : decode cX0_drain 1 = .ok (.getfield 25, 3) := by decide +kernel
theorem dX0_drain_4 : decode cX0_drain 4 = .ok (.iconst 0, 1) := by decide +kernel
theorem dX0_drain_5 : decode cX0_drain 5 = .ok (.invokestatic 41, 3) := by decide +kernel
theorem dX0_drain_8 : decode cX0_drain 8 = .ok (.aload_n 0, 1) := by decide +kernel
theorem dX0_drain_9 : decode cX0_drain 9 = .ok (.getfield 28, 3) := by decide +kernel
theorem dX0_drain_12 : decode cX0_drain 12 = .ok (.iconst 0, 1) := by decide +kernel
theorem dX0_drain_13 : decode cX0_drain 13 = .ok (.invokestatic 41, 3) := by decide +kernel
theorem dX0_drain_16 : decode cX0_drain 16 = .ok (.return_, 1) := by decide +kernel
theorem dX0_isTight_0 : decode cX0_isTight 0 = .ok (.iload_n 1, 1) := by decide +kernel
theorem dX0_isTight_1 : decode cX0_isTight 1 = .ok (.iconst 4, 1) := by decide +kernel
theorem dX0_isTight_2 : decode cX0_isTight 2 = .ok (.imul, 1) := by decide +kernel
theorem dX0_isTight_3 : decode cX0_isTight 3 = .ok (.aload_n 0, 1) := by decide +kernel
theorem dX0_isTight_4 : decode cX0_isTight 4 = .ok (.getfield 31, 3) := by decide +kernel
theorem dX0_isTight_7 : decode cX0_isTight 7 = .ok (.iconst 3, 1) := by decide +kernel
theorem dX0_isTight_8 : decode cX0_isTight 8 = .ok (.imul, 1) := by decide +kernel
theorem dX0_isTight_9 : decode cX0_isTight 9 = .ok (.if_icmp .le 17, 3) := by decide +kernel
theorem dX0_isTight_12 : decode cX0_isTight 12 = .ok (.aload_n 0, 1) := by decide +kernel
theorem dX0_isTight_13 : decode cX0_isTight 13 = .ok (.getfield 31, 3) := by decide +kernel
theorem dX0_isTight_16 : decode cX0_isTight 16 = .ok (.sipush 4096, 3) := by decide +kernel
theorem dX0_isTight_19 : decode cX0_isTight 19 = .ok (.if_icmp .ge 7, 3) := by decide +kernel
theorem dX0_isTight_22 : decode cX0_isTight 22 = .ok (.iconst 1, 1) := by decide +kernel
theorem dX0_isTight_23 : decode cX0_isTight 23 = .ok (.goto 4, 3) := by decide +kernel
theorem dX0_isTight_26 : decode cX0_isTight 26 = .ok (.iconst 0, 1) := by decide +kernel
theorem dX0_isTight_27 : decode cX0_isTight 27 = .ok (.ireturn, 1) := by decide +kernel
theorem dX0_stretch_0 : decode cX0_stretch 0 = .ok (.aload_n 0, 1) := by decide +kernel
theorem dX0_stretch_1 : decode cX0_stretch 1 = .ok (.invokevirtual 38, 3) := by decide +kernel
theorem dX0_stretch_4 : decode cX0_stretch 4 = .ok (.aload_n 0, 1) := by decide +kernel
theorem dX0_stretch_5 : decode cX0_stretch 5 = .ok (.aload_n 0, 1) := by decide +kernel
theorem dX0_stretch_6 : decode cX0_stretch 6 = .ok (.getfield 31, 3) := by decide +kernel
theorem dX0_stretch_9 : decode cX0_stretch 9 = .ok (.iconst 2, 1) := by decide +kernel
theorem dX0_stretch_10 : decode cX0_stretch 10 = .ok (.imul, 1) := by decide +kernel
theorem dX0_stretch_11 : decode cX0_stretch 11 = .ok (.putfield 31, 3) := by decide +kernel
theorem dX0_stretch_14 : decode cX0_stretch 14 = .ok (.return_, 1) := by decide +kernel
theorem dX0_keyOf_0 : decode cX0_keyOf 0 = .ok (.aload_n 0, 1) := by decide +kernel
theorem dX0_keyOf_1 : decode cX0_keyOf 1 = .ok (.getfield 12, 3) := by decide +kernel
theorem dX0_keyOf_4 : decode cX0_keyOf 4 = .ok (.iload_n 1, 1) := by decide +kernel
theorem dX0_keyOf_5 : decode cX0_keyOf 5 = .ok (.invokevirtual 47, 3) := by decide +kernel
theorem dX0_keyOf_8 : decode cX0_keyOf 8 = .ok (.ireturn, 1) := by decide +kernel
theorem dX0_name_0 : decode cX0_name 0 = .ok (.aload_n 0, 1) := by decide +kernel
theorem dX0_name_1 : decode cX0_name 1 = .ok (.getfield 12, 3) := by decide +kernel
theorem dX0_name_4 : decode cX0_name 4 = .ok (.iload_n 1, 1) := by decide +kernel
theorem dX0_name_5 : decode cX0_name 5 = .ok (.iload_n 2, 1) := by decide +kernel
theorem dX0_name_6 : decode cX0_name 6 = .ok (.invokevirtual 51, 3) := by decide +kernel
theorem dX0_name_9 : decode cX0_name 9 = .ok (.return_, 1) := by decide +kernel
theorem dX0_slotOf_0 : decode cX0_slotOf 0 = .ok (.aload_n 0, 1) := by decide +kernel
theorem dX0_slotOf_1 : decode cX0_slotOf 1 = .ok (.iload_n 1, 1) := by decide +kernel
theorem dX0_slotOf_2 : decode cX0_slotOf 2 = .ok (.invokevirtual 55, 3) := by decide +kernel
theorem dX0_slotOf_5 : decode cX0_slotOf 5 = .ok (.istore_n 2, 1) := by decide +kernel
theorem dX0_slotOf_6 : decode cX0_slotOf 6 = .ok (.aload_n 0, 1) := by decide +kernel
theorem dX0_slotOf_7 : decode cX0_slotOf 7 = .ok (.getfield 28, 3) := by decide +kernel
theorem dX0_slotOf_10 : decode cX0_slotOf 10 = .ok (.iload_n 2, 1) := by decide +kernel
theorem dX0_slotOf_11 : decode cX0_slotOf 11 = .ok (.iaload, 1) := by decide +kernel
theorem dX0_slotOf_12 : decode cX0_slotOf 12 = .ok (.ifCond .eq 18, 3) := by decide +kernel
theorem dX0_slotOf_15 : decode cX0_slotOf 15 = .ok (.aload_n 0, 1) := by decide +kernel
theorem dX0_slotOf_16 : decode cX0_slotOf 16 = .ok (.getfield 12, 3) := by decide +kernel
theorem dX0_slotOf_19 : decode cX0_slotOf 19 = .ok (.aload_n 0, 1) := by decide +kernel
theorem dX0_slotOf_20 : decode cX0_slotOf 20 = .ok (.getfield 28, 3) := by decide +kernel
theorem dX0_slotOf_23 : decode cX0_slotOf 23 = .ok (.iload_n 2, 1) := by decide +kernel
theorem dX0_slotOf_24 : decode cX0_slotOf 24 = .ok (.iaload, 1) := by decide +kernel
theorem dX0_slotOf_25 : decode cX0_slotOf 25 = .ok (.iload_n 1, 1) := by decide +kernel
theorem dX0_slotOf_26 : decode cX0_slotOf 26 = .ok (.invokevirtual 58, 3) := by decide +kernel
theorem dX0_slotOf_29 : decode cX0_slotOf 29 = .ok (.ireturn, 1) := by decide +kernel
theorem dX0_slotOf_30 : decode cX0_slotOf 30 = .ok (.aload_n 0, 1) := by decide +kernel
theorem dX0_slotOf_31 : decode cX0_slotOf 31 = .ok (.getfield 25, 3) := by decide +kernel
theorem dX0_slotOf_34 : decode cX0_slotOf 34 = .ok (.iload_n 2, 1) := by decide +kernel
theorem dX0_slotOf_35 : decode cX0_slotOf 35 = .ok (.iaload, 1) := by decide +kernel
theorem dX0_slotOf_36 : decode cX0_slotOf 36 = .ok (.istore_n 3, 1) := by decide +kernel
theorem dX0_slotOf_37 : decode cX0_slotOf 37 = .ok (.iconst 0, 1) := by decide +kernel
theorem dX0_slotOf_38 : decode cX0_slotOf 38 = .ok (.istore 4, 2) := by decide +kernel
theorem dX0_slotOf_40 : decode cX0_slotOf 40 = .ok (.iload 4, 2) := by decide +kernel
theorem dX0_slotOf_42 : decode cX0_slotOf 42 = .ok (.bipush 8, 2) := by decide +kernel
theorem dX0_slotOf_44 : decode cX0_slotOf 44 = .ok (.if_icmp .ge 34, 3) := by decide +kernel
theorem dX0_slotOf_47 : decode cX0_slotOf 47 = .ok (.iload_n 3, 1) := by decide +kernel
theorem dX0_slotOf_48 : decode cX0_slotOf 48 = .ok (.ifCond .eq 30, 3) := by decide +kernel
theorem dX0_slotOf_51 : decode cX0_slotOf 51 = .ok (.aload_n 0, 1) := by decide +kernel
theorem dX0_slotOf_52 : decode cX0_slotOf 52 = .ok (.getfield 12, 3) := by decide +kernel
theorem dX0_slotOf_55 : decode cX0_slotOf 55 = .ok (.iload_n 3, 1) := by decide +kernel
theorem dX0_slotOf_56 : decode cX0_slotOf 56 = .ok (.invokevirtual 47, 3) := by decide +kernel
theorem dX0_slotOf_59 : decode cX0_slotOf 59 = .ok (.iload_n 1, 1) := by decide +kernel
theorem dX0_slotOf_60 : decode cX0_slotOf 60 = .ok (.if_icmp .ne 5, 3) := by decide +kernel
theorem dX0_slotOf_63 : decode cX0_slotOf 63 = .ok (.iload_n 3, 1) := by decide +kernel
theorem dX0_slotOf_64 : decode cX0_slotOf 64 = .ok (.ireturn, 1) := by decide +kernel
theorem dX0_slotOf_65 : decode cX0_slotOf 65 = .ok (.aload_n 0, 1) := by decide +kernel
theorem dX0_slotOf_66 : decode cX0_slotOf 66 = .ok (.getfield 18, 3) := by decide +kernel
theorem dX0_slotOf_69 : decode cX0_slotOf 69 = .ok (.iload_n 3, 1) := by decide +kernel
theorem dX0_slotOf_70 : decode cX0_slotOf 70 = .ok (.iaload, 1) := by decide +kernel
theorem dX0_slotOf_71 : decode cX0_slotOf 71 = .ok (.istore_n 3, 1) := by decide +kernel
theorem dX0_slotOf_72 : decode cX0_slotOf 72 = .ok (.iinc 4 1, 3) := by decide +kernel
theorem dX0_slotOf_75 : decode cX0_slotOf 75 = .ok (.goto (-35), 3) := by decide +kernel
theorem dX0_slotOf_78 : decode cX0_slotOf 78 = .ok (.iconst 0, 1) := by decide +kernel
theorem dX0_slotOf_79 : decode cX0_slotOf 79 = .ok (.ireturn, 1) := by decide +kernel
theorem dX0_firstFrom_0 : decode cX0_firstFrom 0 = .ok (.iload_n 1, 1) := by decide +kernel
theorem dX0_firstFrom_1 : decode cX0_firstFrom 1 = .ok (.istore_n 2, 1) := by decide +kernel
theorem dX0_firstFrom_2 : decode cX0_firstFrom 2 = .ok (.iload_n 2, 1) := by decide +kernel
theorem dX0_firstFrom_3 : decode cX0_firstFrom 3 = .ok (.aload_n 0, 1) := by decide +kernel
theorem dX0_firstFrom_4 : decode cX0_firstFrom 4 = .ok (.getfield 31, 3) := by decide +kernel
theorem dX0_firstFrom_7 : decode cX0_firstFrom 7 = .ok (.if_icmp .ge 25, 3) := by decide +kernel
theorem dX0_firstFrom_10 : decode cX0_firstFrom 10 = .ok (.aload_n 0, 1) := by decide +kernel
theorem dX0_firstFrom_11 : decode cX0_firstFrom 11 = .ok (.getfield 25, 3) := by decide +kernel
theorem dX0_firstFrom_14 : decode cX0_firstFrom 14 = .ok (.iload_n 2, 1) := by decide +kernel
theorem dX0_firstFrom_15 : decode cX0_firstFrom 15 = .ok (.iaload, 1) := by decide +kernel
theorem dX0_firstFrom_16 : decode cX0_firstFrom 16 = .ok (.ifCond .eq 10, 3) := by decide +kernel
theorem dX0_firstFrom_19 : decode cX0_firstFrom 19 = .ok (.aload_n 0, 1) := by decide +kernel
theorem dX0_firstFrom_20 : decode cX0_firstFrom 20 = .ok (.getfield 25, 3) := by decide +kernel
theorem dX0_firstFrom_23 : decode cX0_firstFrom 23 = .ok (.iload_n 2, 1) := by decide +kernel
theorem dX0_firstFrom_24 : decode cX0_firstFrom 24 = .ok (.iaload, 1) := by decide +kernel
theorem dX0_firstFrom_25 : decode cX0_firstFrom 25 = .ok (.ireturn, 1) := by decide +kernel
theorem dX0_firstFrom_26 : decode cX0_firstFrom 26 = .ok (.iinc 2 1, 3) := by decide +kernel
theorem dX0_firstFrom_29 : decode cX0_firstFrom 29 = .ok (.goto (-27), 3) := by decide +kernel
theorem dX0_firstFrom_32 : decode cX0_firstFrom 32 = .ok (.iconst 0, 1) := by decide +kernel
theorem dX0_firstFrom_33 : decode cX0_firstFrom 33 = .ok (.ireturn, 1) := by decide +kernel
theorem dX0_nextInPlace_0 : decode cX0_nextInPlace 0 = .ok (.aload_n 0, 1) := by decide +kernel
theorem dX0_nextInPlace_1 : decode cX0_nextInPlace 1 = .ok (.getfield 18, 3) := by decide +kernel
theorem dX0_nextInPlace_4 : decode cX0_nextInPlace 4 = .ok (.iload_n 1, 1) := by decide +kernel
theorem dX0_nextInPlace_5 : decode cX0_nextInPlace 5 = .ok (.iaload, 1) := by decide +kernel
theorem dX0_nextInPlace_6 : decode cX0_nextInPlace 6 = .ok (.ireturn, 1) := by decide +kernel
theorem dX0_behind_0 : decode cX0_behind 0 = .ok (.aload_n 0, 1) := by decide +kernel
theorem dX0_behind_1 : decode cX0_behind 1 = .ok (.getfield 18, 3) := by decide +kernel
theorem dX0_behind_4 : decode cX0_behind 4 = .ok (.iload_n 1, 1) := by decide +kernel
theorem dX0_behind_5 : decode cX0_behind 5 = .ok (.iaload, 1) := by decide +kernel
theorem dX0_behind_6 : decode cX0_behind 6 = .ok (.ifCond .eq 10, 3) := by decide +kernel
theorem dX0_behind_9 : decode cX0_behind 9 = .ok (.aload_n 0, 1) := by decide +kernel
theorem dX0_behind_10 : decode cX0_behind 10 = .ok (.getfield 18, 3) := by decide +kernel
theorem dX0_behind_13 : decode cX0_behind 13 = .ok (.iload_n 1, 1) := by decide +kernel
theorem dX0_behind_14 : decode cX0_behind 14 = .ok (.iaload, 1) := by decide +kernel
theorem dX0_behind_15 : decode cX0_behind 15 = .ok (.ireturn, 1) := by decide +kernel
theorem dX0_behind_16 : decode cX0_behind 16 = .ok (.aload_n 0, 1) := by decide +kernel
theorem dX0_behind_17 : decode cX0_behind 17 = .ok (.aload_n 0, 1) := by decide +kernel
theorem dX0_behind_18 : decode cX0_behind 18 = .ok (.aload_n 0, 1) := by decide +kernel
theorem dX0_behind_19 : decode cX0_behind 19 = .ok (.getfield 12, 3) := by decide +kernel
theorem dX0_behind_22 : decode cX0_behind 22 = .ok (.iload_n 1, 1) := by decide +kernel
theorem dX0_behind_23 : decode cX0_behind 23 = .ok (.invokevirtual 47, 3) := by decide +kernel
theorem dX0_behind_26 : decode cX0_behind 26 = .ok (.invokevirtual 55, 3) := by decide +kernel
theorem dX0_behind_29 : decode cX0_behind 29 = .ok (.iconst 1, 1) := by decide +kernel
theorem dX0_behind_30 : decode cX0_behind 30 = .ok (.iadd, 1) := by decide +kernel
theorem dX0_behind_31 : decode cX0_behind 31 = .ok (.invokevirtual 62, 3) := by decide +kernel
theorem dX0_behind_34 : decode cX0_behind 34 = .ok (.ireturn, 1) := by decide +kernel
theorem dX0_add_0 : decode cX0_add 0 = .ok (.aload_n 0, 1) := by decide +kernel
theorem dX0_add_1 : decode cX0_add 1 = .ok (.aload_n 0, 1) := by decide +kernel
theorem dX0_add_2 : decode cX0_add 2 = .ok (.getfield 12, 3) := by decide +kernel
theorem dX0_add_5 : decode cX0_add 5 = .ok (.iload_n 1, 1) := by decide +kernel
theorem dX0_add_6 : decode cX0_add 6 = .ok (.invokevirtual 47, 3) := by decide +kernel
theorem dX0_add_9 : decode cX0_add 9 = .ok (.invokevirtual 55, 3) := by decide +kernel
theorem dX0_add_12 : decode cX0_add 12 = .ok (.istore_n 2, 1) := by decide +kernel
theorem dX0_add_13 : decode cX0_add 13 = .ok (.aload_n 0, 1) := by decide +kernel
theorem dX0_add_14 : decode cX0_add 14 = .ok (.iload_n 2, 1) := by decide +kernel
theorem dX0_add_15 : decode cX0_add 15 = .ok (.iload_n 1, 1) := by decide +kernel
theorem dX0_add_16 : decode cX0_add 16 = .ok (.invokevirtual 65, 3) := by decide +kernel
theorem dX0_add_19 : decode cX0_add 19 = .ok (.aload_n 0, 1) := by decide +kernel
theorem dX0_add_20 : decode cX0_add 20 = .ok (.getfield 28, 3) := by decide +kernel
theorem dX0_add_23 : decode cX0_add 23 = .ok (.iload_n 2, 1) := by decide +kernel
theorem dX0_add_24 : decode cX0_add 24 = .ok (.iaload, 1) := by decide +kernel
theorem dX0_add_25 : decode cX0_add 25 = .ok (.ifCond .eq 26, 3) := by decide +kernel
theorem dX0_add_28 : decode cX0_add 28 = .ok (.aload_n 0, 1) := by decide +kernel
theorem dX0_add_29 : decode cX0_add 29 = .ok (.getfield 28, 3) := by decide +kernel
theorem dX0_add_32 : decode cX0_add 32 = .ok (.iload_n 2, 1) := by decide +kernel
theorem dX0_add_33 : decode cX0_add 33 = .ok (.aload_n 0, 1) := by decide +kernel
theorem dX0_add_34 : decode cX0_add 34 = .ok (.getfield 12, 3) := by decide +kernel
theorem dX0_add_37 : decode cX0_add 37 = .ok (.aload_n 0, 1) := by decide +kernel
theorem dX0_add_38 : decode cX0_add 38 = .ok (.getfield 28, 3) := by decide +kernel
theorem dX0_add_41 : decode cX0_add 41 = .ok (.iload_n 2, 1) := by decide +kernel
theorem dX0_add_42 : decode cX0_add 42 = .ok (.iaload, 1) := by decide +kernel
theorem dX0_add_43 : decode cX0_add 43 = .ok (.iload_n 1, 1) := by decide +kernel
theorem dX0_add_44 : decode cX0_add 44 = .ok (.invokevirtual 68, 3) := by decide +kernel
theorem dX0_add_47 : decode cX0_add 47 = .ok (.iastore, 1) := by decide +kernel
theorem dX0_add_48 : decode cX0_add 48 = .ok (.goto 61, 3) := by decide +kernel
theorem dX0_add_51 : decode cX0_add 51 = .ok (.aload_n 0, 1) := by decide +kernel
theorem dX0_add_52 : decode cX0_add 52 = .ok (.iload_n 2, 1) := by decide +kernel
theorem dX0_add_53 : decode cX0_add 53 = .ok (.invokevirtual 71, 3) := by decide +kernel
theorem dX0_add_56 : decode cX0_add 56 = .ok (.ifCond .eq 53, 3) := by decide +kernel
theorem dX0_add_59 : decode cX0_add 59 = .ok (.aload_n 0, 1) := by decide +kernel
theorem dX0_add_60 : decode cX0_add 60 = .ok (.getfield 25, 3) := by decide +kernel
theorem dX0_add_63 : decode cX0_add 63 = .ok (.iload_n 2, 1) := by decide +kernel
theorem dX0_add_64 : decode cX0_add 64 = .ok (.iaload, 1) := by decide +kernel
theorem dX0_add_65 : decode cX0_add 65 = .ok (.istore_n 3, 1) := by decide +kernel
theorem dX0_add_66 : decode cX0_add 66 = .ok (.iconst 0, 1) := by decide +kernel
theorem dX0_add_67 : decode cX0_add 67 = .ok (.istore 4, 2) := by decide +kernel
theorem dX0_add_69 : decode cX0_add 69 = .ok (.iload 4, 2) := by decide +kernel
theorem dX0_add_71 : decode cX0_add 71 = .ok (.bipush 8, 2) := by decide +kernel
theorem dX0_add_73 : decode cX0_add 73 = .ok (.if_icmp .gt 36, 3) := by decide +kernel
theorem dX0_add_76 : decode cX0_add 76 = .ok (.aload_n 0, 1) := by decide +kernel
theorem dX0_add_77 : decode cX0_add 77 = .ok (.getfield 28, 3) := by decide +kernel
theorem dX0_add_80 : decode cX0_add 80 = .ok (.iload_n 2, 1) := by decide +kernel
theorem dX0_add_81 : decode cX0_add 81 = .ok (.aload_n 0, 1) := by decide +kernel
theorem dX0_add_82 : decode cX0_add 82 = .ok (.getfield 12, 3) := by decide +kernel
theorem dX0_add_85 : decode cX0_add 85 = .ok (.aload_n 0, 1) := by decide +kernel
theorem dX0_add_86 : decode cX0_add 86 = .ok (.getfield 28, 3) := by decide +kernel
theorem dX0_add_89 : decode cX0_add 89 = .ok (.iload_n 2, 1) := by decide +kernel
theorem dX0_add_90 : decode cX0_add 90 = .ok (.iaload, 1) := by decide +kernel
theorem dX0_add_91 : decode cX0_add 91 = .ok (.iload_n 3, 1) := by decide +kernel
theorem dX0_add_92 : decode cX0_add 92 = .ok (.invokevirtual 68, 3) := by decide +kernel
theorem dX0_add_95 : decode cX0_add 95 = .ok (.iastore, 1) := by decide +kernel
theorem dX0_add_96 : decode cX0_add 96 = .ok (.aload_n 0, 1) := by decide +kernel
theorem dX0_add_97 : decode cX0_add 97 = .ok (.getfield 18, 3) := by decide +kernel
theorem dX0_add_100 : decode cX0_add 100 = .ok (.iload_n 3, 1) := by decide +kernel
theorem dX0_add_101 : decode cX0_add 101 = .ok (.iaload, 1) := by decide +kernel
theorem dX0_add_102 : decode cX0_add 102 = .ok (.istore_n 3, 1) := by decide +kernel
theorem dX0_add_103 : decode cX0_add 103 = .ok (.iinc 4 1, 3) := by decide +kernel
theorem dX0_add_106 : decode cX0_add 106 = .ok (.goto (-37), 3) := by decide +kernel
theorem dX0_add_109 : decode cX0_add 109 = .ok (.return_, 1) := by decide +kernel
theorem dX0_remove_0 : decode cX0_remove 0 = .ok (.aload_n 0, 1) := by decide +kernel
theorem dX0_remove_1 : decode cX0_remove 1 = .ok (.aload_n 0, 1) := by decide +kernel
theorem dX0_remove_2 : decode cX0_remove 2 = .ok (.getfield 12, 3) := by decide +kernel
theorem dX0_remove_5 : decode cX0_remove 5 = .ok (.iload_n 1, 1) := by decide +kernel
theorem dX0_remove_6 : decode cX0_remove 6 = .ok (.invokevirtual 47, 3) := by decide +kernel
theorem dX0_remove_9 : decode cX0_remove 9 = .ok (.invokevirtual 55, 3) := by decide +kernel
theorem dX0_remove_12 : decode cX0_remove 12 = .ok (.istore_n 2, 1) := by decide +kernel
theorem dX0_remove_13 : decode cX0_remove 13 = .ok (.aload_n 0, 1) := by decide +kernel
theorem dX0_remove_14 : decode cX0_remove 14 = .ok (.iload_n 2, 1) := by decide +kernel
theorem dX0_remove_15 : decode cX0_remove 15 = .ok (.iload_n 1, 1) := by decide +kernel
theorem dX0_remove_16 : decode cX0_remove 16 = .ok (.invokevirtual 75, 3) := by decide +kernel
theorem dX0_remove_19 : decode cX0_remove 19 = .ok (.aload_n 0, 1) := by decide +kernel
theorem dX0_remove_20 : decode cX0_remove 20 = .ok (.getfield 28, 3) := by decide +kernel
theorem dX0_remove_23 : decode cX0_remove 23 = .ok (.iload_n 2, 1) := by decide +kernel
theorem dX0_remove_24 : decode cX0_remove 24 = .ok (.iaload, 1) := by decide +kernel
theorem dX0_remove_25 : decode cX0_remove 25 = .ok (.ifCond .eq 41, 3) := by decide +kernel
theorem dX0_remove_28 : decode cX0_remove 28 = .ok (.aload_n 0, 1) := by decide +kernel
theorem dX0_remove_29 : decode cX0_remove 29 = .ok (.getfield 12, 3) := by decide +kernel
theorem dX0_remove_32 : decode cX0_remove 32 = .ok (.aload_n 0, 1) := by decide +kernel
theorem dX0_remove_33 : decode cX0_remove 33 = .ok (.getfield 28, 3) := by decide +kernel
theorem dX0_remove_36 : decode cX0_remove 36 = .ok (.iload_n 2, 1) := by decide +kernel
theorem dX0_remove_37 : decode cX0_remove 37 = .ok (.iaload, 1) := by decide +kernel
theorem dX0_remove_38 : decode cX0_remove 38 = .ok (.iload_n 1, 1) := by decide +kernel
theorem dX0_remove_39 : decode cX0_remove 39 = .ok (.invokevirtual 78, 3) := by decide +kernel
theorem dX0_remove_42 : decode cX0_remove 42 = .ok (.istore_n 3, 1) := by decide +kernel
theorem dX0_remove_43 : decode cX0_remove 43 = .ok (.aload_n 0, 1) := by decide +kernel
theorem dX0_remove_44 : decode cX0_remove 44 = .ok (.getfield 28, 3) := by decide +kernel
theorem dX0_remove_47 : decode cX0_remove 47 = .ok (.iload_n 2, 1) := by decide +kernel
theorem dX0_remove_48 : decode cX0_remove 48 = .ok (.aload_n 0, 1) := by decide +kernel
theorem dX0_remove_49 : decode cX0_remove 49 = .ok (.getfield 12, 3) := by decide +kernel
theorem dX0_remove_52 : decode cX0_remove 52 = .ok (.iload_n 3, 1) := by decide +kernel
theorem dX0_remove_53 : decode cX0_remove 53 = .ok (.invokevirtual 81, 3) := by decide +kernel
theorem dX0_remove_56 : decode cX0_remove 56 = .ok (.iconst 3, 1) := by decide +kernel
theorem dX0_remove_57 : decode cX0_remove 57 = .ok (.if_icmp .ge 7, 3) := by decide +kernel
theorem dX0_remove_60 : decode cX0_remove 60 = .ok (.iconst 0, 1) := by decide +kernel
theorem dX0_remove_61 : decode cX0_remove 61 = .ok (.goto 4, 3) := by decide +kernel
theorem dX0_remove_64 : decode cX0_remove 64 = .ok (.iload_n 3, 1) := by decide +kernel
theorem dX0_remove_65 : decode cX0_remove 65 = .ok (.iastore, 1) := by decide +kernel
theorem dX0_remove_66 : decode cX0_remove 66 = .ok (.return_, 1) := by decide +kernel
theorem dX0_faults_0 : decode cX0_faults 0 = .ok (.iconst 0, 1) := by decide +kernel
theorem dX0_faults_1 : decode cX0_faults 1 = .ok (.istore_n 2, 1) := by decide +kernel
theorem dX0_faults_2 : decode cX0_faults 2 = .ok (.iconst 0, 1) := by decide +kernel
theorem dX0_faults_3 : decode cX0_faults 3 = .ok (.istore_n 3, 1) := by decide +kernel
theorem dX0_faults_4 : decode cX0_faults 4 = .ok (.iconst 0, 1) := by decide +kernel
theorem dX0_faults_5 : decode cX0_faults 5 = .ok (.istore 4, 2) := by decide +kernel
theorem dX0_faults_7 : decode cX0_faults 7 = .ok (.iload 4, 2) := by decide +kernel
theorem dX0_faults_9 : decode cX0_faults 9 = .ok (.aload_n 0, 1) := by decide +kernel
theorem dX0_faults_10 : decode cX0_faults 10 = .ok (.getfield 31, 3) := by decide +kernel
theorem dX0_faults_13 : decode cX0_faults 13 = .ok (.if_icmp .ge 27, 3) := by decide +kernel
theorem dX0_faults_16 : decode cX0_faults 16 = .ok (.iload_n 2, 1) := by decide +kernel
theorem dX0_faults_17 : decode cX0_faults 17 = .ok (.aload_n 0, 1) := by decide +kernel
theorem dX0_faults_18 : decode cX0_faults 18 = .ok (.iload 4, 2) := by decide +kernel
theorem dX0_faults_20 : decode cX0_faults 20 = .ok (.invokevirtual 84, 3) := by decide +kernel
theorem dX0_faults_23 : decode cX0_faults 23 = .ok (.iadd, 1) := by decide +kernel
theorem dX0_faults_24 : decode cX0_faults 24 = .ok (.istore_n 2, 1) := by decide +kernel
theorem dX0_faults_25 : decode cX0_faults 25 = .ok (.iload_n 3, 1) := by decide +kernel
theorem dX0_faults_26 : decode cX0_faults 26 = .ok (.aload_n 0, 1) := by decide +kernel
theorem dX0_faults_27 : decode cX0_faults 27 = .ok (.iload 4, 2) := by decide +kernel
theorem dX0_faults_29 : decode cX0_faults 29 = .ok (.invokevirtual 87, 3) := by decide +kernel
theorem dX0_faults_32 : decode cX0_faults 32 = .ok (.iadd, 1) := by decide +kernel
theorem dX0_faults_33 : decode cX0_faults 33 = .ok (.istore_n 3, 1) := by decide +kernel
theorem dX0_faults_34 : decode cX0_faults 34 = .ok (.iinc 4 1, 3) := by decide +kernel
theorem dX0_faults_37 : decode cX0_faults 37 = .ok (.goto (-30), 3) := by decide +kernel
theorem dX0_faults_40 : decode cX0_faults 40 = .ok (.iload_n 3, 1) := by decide +kernel
theorem dX0_faults_41 : decode cX0_faults 41 = .ok (.iload_n 1, 1) := by decide +kernel
theorem dX0_faults_42 : decode cX0_faults 42 = .ok (.if_icmp .eq 6, 3) := by decide +kernel
theorem dX0_faults_45 : decode cX0_faults 45 = .ok (.iinc 2 1, 3) := by decide +kernel
theorem dX0_faults_48 : decode cX0_faults 48 = .ok (.aload_n 0, 1) := by decide +kernel
theorem dX0_faults_49 : decode cX0_faults 49 = .ok (.iload_n 1, 1) := by decide +kernel
theorem dX0_faults_50 : decode cX0_faults 50 = .ok (.invokevirtual 90, 3) := by decide +kernel
theorem dX0_faults_53 : decode cX0_faults 53 = .ok (.ifCond .eq 6, 3) := by decide +kernel
theorem dX0_faults_56 : decode cX0_faults 56 = .ok (.iinc 2 1, 3) := by decide +kernel
theorem dX0_faults_59 : decode cX0_faults 59 = .ok (.iload_n 2, 1) := by decide +kernel
theorem dX0_faults_60 : decode cX0_faults 60 = .ok (.ireturn, 1) := by decide +kernel
theorem dX0_faultsAt_0 : decode cX0_faultsAt 0 = .ok (.iconst 0, 1) := by decide +kernel
theorem dX0_faultsAt_1 : decode cX0_faultsAt 1 = .ok (.istore_n 2, 1) := by decide +kernel
theorem dX0_faultsAt_2 : decode cX0_faultsAt 2 = .ok (.iconst 0, 1) := by decide +kernel
theorem dX0_faultsAt_3 : decode cX0_faultsAt 3 = .ok (.istore_n 3, 1) := by decide +kernel
theorem dX0_faultsAt_4 : decode cX0_faultsAt 4 = .ok (.aload_n 0, 1) := by decide +kernel
theorem dX0_faultsAt_5 : decode cX0_faultsAt 5 = .ok (.getfield 25, 3) := by decide +kernel
theorem dX0_faultsAt_8 : decode cX0_faultsAt 8 = .ok (.iload_n 1, 1) := by decide +kernel
theorem dX0_faultsAt_9 : decode cX0_faultsAt 9 = .ok (.iaload, 1) := by decide +kernel
theorem dX0_faultsAt_10 : decode cX0_faultsAt 10 = .ok (.istore 4, 2) := by decide +kernel
theorem dX0_faultsAt_12 : decode cX0_faultsAt 12 = .ok (.iconst 0, 1) := by decide +kernel
theorem dX0_faultsAt_13 : decode cX0_faultsAt 13 = .ok (.istore 5, 2) := by decide +kernel
theorem dX0_faultsAt_15 : decode cX0_faultsAt 15 = .ok (.iload 5, 2) := by decide +kernel
theorem dX0_faultsAt_17 : decode cX0_faultsAt 17 = .ok (.sipush 2002, 3) := by decide +kernel
theorem dX0_faultsAt_20 : decode cX0_faultsAt 20 = .ok (.if_icmp .ge 79, 3) := by decide +kernel
theorem dX0_faultsAt_23 : decode cX0_faultsAt 23 = .ok (.iload 4, 2) := by decide +kernel
theorem dX0_faultsAt_25 : decode cX0_faultsAt 25 = .ok (.ifCond .eq 74, 3) := by decide +kernel
theorem dX0_faultsAt_28 : decode cX0_faultsAt 28 = .ok (.aload_n 0, 1) := by decide +kernel
theorem dX0_faultsAt_29 : decode cX0_faultsAt 29 = .ok (.getfield 12, 3) := by decide +kernel
theorem dX0_faultsAt_32 : decode cX0_faultsAt 32 = .ok (.iload 4, 2) := by decide +kernel
theorem dX0_faultsAt_34 : decode cX0_faultsAt 34 = .ok (.invokevirtual 47, 3) := by decide +kernel
theorem dX0_faultsAt_37 : decode cX0_faultsAt 37 = .ok (.istore 6, 2) := by decide +kernel
theorem dX0_faultsAt_39 : decode cX0_faultsAt 39 = .ok (.aload_n 0, 1) := by decide +kernel
theorem dX0_faultsAt_40 : decode cX0_faultsAt 40 = .ok (.iload 6, 2) := by decide +kernel
theorem dX0_faultsAt_42 : decode cX0_faultsAt 42 = .ok (.invokevirtual 55, 3) := by decide +kernel
theorem dX0_faultsAt_45 : decode cX0_faultsAt 45 = .ok (.iload_n 1, 1) := by decide +kernel
theorem dX0_faultsAt_46 : decode cX0_faultsAt 46 = .ok (.if_icmp .ne 14, 3) := by decide +kernel
theorem dX0_faultsAt_49 : decode cX0_faultsAt 49 = .ok (.aload_n 0, 1) := by decide +kernel
theorem dX0_faultsAt_50 : decode cX0_faultsAt 50 = .ok (.iload 6, 2) := by decide +kernel
theorem dX0_faultsAt_52 : decode cX0_faultsAt 52 = .ok (.invokevirtual 93, 3) := by decide +kernel
theorem dX0_faultsAt_55 : decode cX0_faultsAt 55 = .ok (.iload 4, 2) := by decide +kernel
theorem dX0_faultsAt_57 : decode cX0_faultsAt 57 = .ok (.if_icmp .eq 6, 3) := by decide +kernel
theorem dX0_faultsAt_60 : decode cX0_faultsAt 60 = .ok (.iinc 2 1, 3) := by decide +kernel
theorem dX0_faultsAt_63 : decode cX0_faultsAt 63 = .ok (.iload_n 3, 1) := by decide +kernel
theorem dX0_faultsAt_64 : decode cX0_faultsAt 64 = .ok (.ifCond .eq 17, 3) := by decide +kernel
theorem dX0_faultsAt_67 : decode cX0_faultsAt 67 = .ok (.aload_n 0, 1) := by decide +kernel
theorem dX0_faultsAt_68 : decode cX0_faultsAt 68 = .ok (.getfield 22, 3) := by decide +kernel
theorem dX0_faultsAt_71 : decode cX0_faultsAt 71 = .ok (.iload 4, 2) := by decide +kernel
theorem dX0_faultsAt_73 : decode cX0_faultsAt 73 = .ok (.iaload, 1) := by decide +kernel
theorem dX0_faultsAt_74 : decode cX0_faultsAt 74 = .ok (.iload_n 3, 1) := by decide +kernel
theorem dX0_faultsAt_75 : decode cX0_faultsAt 75 = .ok (.if_icmp .eq 6, 3) := by decide +kernel
theorem dX0_faultsAt_78 : decode cX0_faultsAt 78 = .ok (.iinc 2 1, 3) := by decide +kernel
theorem dX0_faultsAt_81 : decode cX0_faultsAt 81 = .ok (.iload 4, 2) := by decide +kernel
theorem dX0_faultsAt_83 : decode cX0_faultsAt 83 = .ok (.istore_n 3, 1) := by decide +kernel
theorem dX0_faultsAt_84 : decode cX0_faultsAt 84 = .ok (.aload_n 0, 1) := by decide +kernel
theorem dX0_faultsAt_85 : decode cX0_faultsAt 85 = .ok (.getfield 18, 3) := by decide +kernel
theorem dX0_faultsAt_88 : decode cX0_faultsAt 88 = .ok (.iload 4, 2) := by decide +kernel
theorem dX0_faultsAt_90 : decode cX0_faultsAt 90 = .ok (.iaload, 1) := by decide +kernel
theorem dX0_faultsAt_91 : decode cX0_faultsAt 91 = .ok (.istore 4, 2) := by decide +kernel
theorem dX0_faultsAt_93 : decode cX0_faultsAt 93 = .ok (.iinc 5 1, 3) := by decide +kernel
theorem dX0_faultsAt_96 : decode cX0_faultsAt 96 = .ok (.goto (-81), 3) := by decide +kernel
theorem dX0_faultsAt_99 : decode cX0_faultsAt 99 = .ok (.iload_n 3, 1) := by decide +kernel
theorem dX0_faultsAt_100 : decode cX0_faultsAt 100 = .ok (.ifCond .eq 21, 3) := by decide +kernel
theorem dX0_faultsAt_103 : decode cX0_faultsAt 103 = .ok (.aload_n 0, 1) := by decide +kernel
theorem dX0_faultsAt_104 : decode cX0_faultsAt 104 = .ok (.getfield 22, 3) := by decide +kernel
theorem dX0_faultsAt_107 : decode cX0_faultsAt 107 = .ok (.aload_n 0, 1) := by decide +kernel
theorem dX0_faultsAt_108 : decode cX0_faultsAt 108 = .ok (.getfield 25, 3) := by decide +kernel
theorem dX0_faultsAt_111 : decode cX0_faultsAt 111 = .ok (.iload_n 1, 1) := by decide +kernel
theorem dX0_faultsAt_112 : decode cX0_faultsAt 112 = .ok (.iaload, 1) := by decide +kernel
theorem dX0_faultsAt_113 : decode cX0_faultsAt 113 = .ok (.iaload, 1) := by decide +kernel
theorem dX0_faultsAt_114 : decode cX0_faultsAt 114 = .ok (.iload_n 3, 1) := by decide +kernel
theorem dX0_faultsAt_115 : decode cX0_faultsAt 115 = .ok (.if_icmp .eq 6, 3) := by decide +kernel
theorem dX0_faultsAt_118 : decode cX0_faultsAt 118 = .ok (.iinc 2 1, 3) := by decide +kernel
theorem dX0_faultsAt_121 : decode cX0_faultsAt 121 = .ok (.iload_n 2, 1) := by decide +kernel
theorem dX0_faultsAt_122 : decode cX0_faultsAt 122 = .ok (.aload_n 0, 1) := by decide +kernel
theorem dX0_faultsAt_123 : decode cX0_faultsAt 123 = .ok (.iload_n 1, 1) := by decide +kernel
theorem dX0_faultsAt_124 : decode cX0_faultsAt 124 = .ok (.invokevirtual 95, 3) := by decide +kernel
theorem dX0_faultsAt_127 : decode cX0_faultsAt 127 = .ok (.iadd, 1) := by decide +kernel
theorem dX0_faultsAt_128 : decode cX0_faultsAt 128 = .ok (.ireturn, 1) := by decide +kernel
theorem dX0_treeFaultsAt_0 : decode cX0_treeFaultsAt 0 = .ok (.aload_n 0, 1) := by decide +kernel
theorem dX0_treeFaultsAt_1 : decode cX0_treeFaultsAt 1 = .ok (.iload_n 1, 1) := by decide +kernel
theorem dX0_treeFaultsAt_2 : decode cX0_treeFaultsAt 2 = .ok (.invokevirtual 87, 3) := by decide +kernel
theorem dX0_treeFaultsAt_5 : decode cX0_treeFaultsAt 5 = .ok (.istore_n 2, 1) := by decide +kernel
theorem dX0_treeFaultsAt_6 : decode cX0_treeFaultsAt 6 = .ok (.aload_n 0, 1) := by decide +kernel
theorem dX0_treeFaultsAt_7 : decode cX0_treeFaultsAt 7 = .ok (.getfield 28, 3) := by decide +kernel
theorem dX0_treeFaultsAt_10 : decode cX0_treeFaultsAt 10 = .ok (.iload_n 1, 1) := by decide +kernel
theorem dX0_treeFaultsAt_11 : decode cX0_treeFaultsAt 11 = .ok (.iaload, 1) := by decide +kernel
theorem dX0_treeFaultsAt_12 : decode cX0_treeFaultsAt 12 = .ok (.ifCond .ne 15, 3) := by decide +kernel
theorem dX0_treeFaultsAt_15 : decode cX0_treeFaultsAt 15 = .ok (.iload_n 2, 1) := by decide +kernel
theorem dX0_treeFaultsAt_16 : decode cX0_treeFaultsAt 16 = .ok (.bipush 8, 2) := by decide +kernel
theorem dX0_treeFaultsAt_18 : decode cX0_treeFaultsAt 18 = .ok (.if_icmp .le 7, 3) := by decide +kernel
theorem dX0_treeFaultsAt_21 : decode cX0_treeFaultsAt 21 = .ok (.iconst 1, 1) := by decide +kernel
theorem dX0_treeFaultsAt_22 : decode cX0_treeFaultsAt 22 = .ok (.goto 4, 3) := by decide +kernel
theorem dX0_treeFaultsAt_25 : decode cX0_treeFaultsAt 25 = .ok (.iconst 0, 1) := by decide +kernel
theorem dX0_treeFaultsAt_26 : decode cX0_treeFaultsAt 26 = .ok (.ireturn, 1) := by decide +kernel
theorem dX0_treeFaultsAt_27 : decode cX0_treeFaultsAt 27 = .ok (.aload_n 0, 1) := by decide +kernel
theorem dX0_treeFaultsAt_28 : decode cX0_treeFaultsAt 28 = .ok (.getfield 12, 3) := by decide +kernel
theorem dX0_treeFaultsAt_31 : decode cX0_treeFaultsAt 31 = .ok (.aload_n 0, 1) := by decide +kernel
theorem dX0_treeFaultsAt_32 : decode cX0_treeFaultsAt 32 = .ok (.getfield 28, 3) := by decide +kernel
theorem dX0_treeFaultsAt_35 : decode cX0_treeFaultsAt 35 = .ok (.iload_n 1, 1) := by decide +kernel
theorem dX0_treeFaultsAt_36 : decode cX0_treeFaultsAt 36 = .ok (.iaload, 1) := by decide +kernel
theorem dX0_treeFaultsAt_37 : decode cX0_treeFaultsAt 37 = .ok (.invokevirtual 81, 3) := by decide +kernel
theorem dX0_treeFaultsAt_40 : decode cX0_treeFaultsAt 40 = .ok (.iconst 3, 1) := by decide +kernel
theorem dX0_treeFaultsAt_41 : decode cX0_treeFaultsAt 41 = .ok (.if_icmp .ge 7, 3) := by decide +kernel
theorem dX0_treeFaultsAt_44 : decode cX0_treeFaultsAt 44 = .ok (.iconst 1, 1) := by decide +kernel
theorem dX0_treeFaultsAt_45 : decode cX0_treeFaultsAt 45 = .ok (.goto 4, 3) := by decide +kernel
theorem dX0_treeFaultsAt_48 : decode cX0_treeFaultsAt 48 = .ok (.iconst 0, 1) := by decide +kernel
theorem dX0_treeFaultsAt_49 : decode cX0_treeFaultsAt 49 = .ok (.istore_n 3, 1) := by decide +kernel
theorem dX0_treeFaultsAt_50 : decode cX0_treeFaultsAt 50 = .ok (.iconst 0, 1) := by decide +kernel
theorem dX0_treeFaultsAt_51 : decode cX0_treeFaultsAt 51 = .ok (.istore 4, 2) := by decide +kernel
theorem dX0_treeFaultsAt_53 : decode cX0_treeFaultsAt 53 = .ok (.aload_n 0, 1) := by decide +kernel
theorem dX0_treeFaultsAt_54 : decode cX0_treeFaultsAt 54 = .ok (.getfield 25, 3) := by decide +kernel
theorem dX0_treeFaultsAt_57 : decode cX0_treeFaultsAt 57 = .ok (.iload_n 1, 1) := by decide +kernel
theorem dX0_treeFaultsAt_58 : decode cX0_treeFaultsAt 58 = .ok (.iaload, 1) := by decide +kernel
theorem dX0_treeFaultsAt_59 : decode cX0_treeFaultsAt 59 = .ok (.istore 5, 2) := by decide +kernel
theorem dX0_treeFaultsAt_61 : decode cX0_treeFaultsAt 61 = .ok (.iconst 0, 1) := by decide +kernel
theorem dX0_treeFaultsAt_62 : decode cX0_treeFaultsAt 62 = .ok (.istore 6, 2) := by decide +kernel
theorem dX0_treeFaultsAt_64 : decode cX0_treeFaultsAt 64 = .ok (.iload 6, 2) := by decide +kernel
theorem dX0_treeFaultsAt_66 : decode cX0_treeFaultsAt 66 = .ok (.iload_n 2, 1) := by decide +kernel
theorem dX0_treeFaultsAt_67 : decode cX0_treeFaultsAt 67 = .ok (.if_icmp .ge 44, 3) := by decide +kernel
theorem dX0_treeFaultsAt_70 : decode cX0_treeFaultsAt 70 = .ok (.iload_n 3, 1) := by decide +kernel
theorem dX0_treeFaultsAt_71 : decode cX0_treeFaultsAt 71 = .ok (.aload_n 0, 1) := by decide +kernel
theorem dX0_treeFaultsAt_72 : decode cX0_treeFaultsAt 72 = .ok (.getfield 12, 3) := by decide +kernel
theorem dX0_treeFaultsAt_75 : decode cX0_treeFaultsAt 75 = .ok (.iload 5, 2) := by decide +kernel
theorem dX0_treeFaultsAt_77 : decode cX0_treeFaultsAt 77 = .ok (.invokevirtual 98, 3) := by decide +kernel
theorem dX0_treeFaultsAt_80 : decode cX0_treeFaultsAt 80 = .ok (.iadd, 1) := by decide +kernel
theorem dX0_treeFaultsAt_81 : decode cX0_treeFaultsAt 81 = .ok (.istore_n 3, 1) := by decide +kernel
theorem dX0_treeFaultsAt_82 : decode cX0_treeFaultsAt 82 = .ok (.iload 4, 2) := by decide +kernel
theorem dX0_treeFaultsAt_84 : decode cX0_treeFaultsAt 84 = .ok (.aload_n 0, 1) := by decide +kernel
theorem dX0_treeFaultsAt_85 : decode cX0_treeFaultsAt 85 = .ok (.getfield 12, 3) := by decide +kernel
theorem dX0_treeFaultsAt_88 : decode cX0_treeFaultsAt 88 = .ok (.iload 5, 2) := by decide +kernel
theorem dX0_treeFaultsAt_90 : decode cX0_treeFaultsAt 90 = .ok (.invokevirtual 99, 3) := by decide +kernel
theorem dX0_treeFaultsAt_93 : decode cX0_treeFaultsAt 93 = .ok (.iadd, 1) := by decide +kernel
theorem dX0_treeFaultsAt_94 : decode cX0_treeFaultsAt 94 = .ok (.istore 4, 2) := by decide +kernel
theorem dX0_treeFaultsAt_96 : decode cX0_treeFaultsAt 96 = .ok (.aload_n 0, 1) := by decide +kernel
theorem dX0_treeFaultsAt_97 : decode cX0_treeFaultsAt 97 = .ok (.getfield 18, 3) := by decide +kernel
theorem dX0_treeFaultsAt_100 : decode cX0_treeFaultsAt 100 = .ok (.iload 5, 2) := by decide +kernel
theorem dX0_treeFaultsAt_102 : decode cX0_treeFaultsAt 102 = .ok (.iaload, 1) := by decide +kernel
theorem dX0_treeFaultsAt_103 : decode cX0_treeFaultsAt 103 = .ok (.istore 5, 2) := by decide +kernel
theorem dX0_treeFaultsAt_105 : decode cX0_treeFaultsAt 105 = .ok (.iinc 6 1, 3) := by decide +kernel
theorem dX0_treeFaultsAt_108 : decode cX0_treeFaultsAt 108 = .ok (.goto (-44), 3) := by decide +kernel
theorem dX0_treeFaultsAt_111 : decode cX0_treeFaultsAt 111 = .ok (.iload 4, 2) := by decide +kernel
theorem dX0_treeFaultsAt_113 : decode cX0_treeFaultsAt 113 = .ok (.iload_n 2, 1) := by decide +kernel
theorem dX0_treeFaultsAt_114 : decode cX0_treeFaultsAt 114 = .ok (.iconst 1, 1) := by decide +kernel
theorem dX0_treeFaultsAt_115 : decode cX0_treeFaultsAt 115 = .ok (.isub, 1) := by decide +kernel
theorem dX0_treeFaultsAt_116 : decode cX0_treeFaultsAt 116 = .ok (.if_icmp .ne 7, 3) := by decide +kernel
theorem dX0_treeFaultsAt_119 : decode cX0_treeFaultsAt 119 = .ok (.iload_n 3, 1) := by decide +kernel
theorem dX0_treeFaultsAt_120 : decode cX0_treeFaultsAt 120 = .ok (.goto 6, 3) := by decide +kernel
theorem dX0_treeFaultsAt_123 : decode cX0_treeFaultsAt 123 = .ok (.iload_n 3, 1) := by decide +kernel
theorem dX0_treeFaultsAt_124 : decode cX0_treeFaultsAt 124 = .ok (.iconst 1, 1) := by decide +kernel
theorem dX0_treeFaultsAt_125 : decode cX0_treeFaultsAt 125 = .ok (.iadd, 1) := by decide +kernel
theorem dX0_treeFaultsAt_126 : decode cX0_treeFaultsAt 126 = .ok (.ireturn, 1) := by decide +kernel
theorem dX0_lengthOf_0 : decode cX0_lengthOf 0 = .ok (.iconst 0, 1) := by decide +kernel
theorem dX0_lengthOf_1 : decode cX0_lengthOf 1 = .ok (.istore_n 2, 1) := by decide +kernel
theorem dX0_lengthOf_2 : decode cX0_lengthOf 2 = .ok (.aload_n 0, 1) := by decide +kernel
theorem dX0_lengthOf_3 : decode cX0_lengthOf 3 = .ok (.getfield 25, 3) := by decide +kernel
theorem dX0_lengthOf_6 : decode cX0_lengthOf 6 = .ok (.iload_n 1, 1) := by decide +kernel
theorem dX0_lengthOf_7 : decode cX0_lengthOf 7 = .ok (.iaload, 1) := by decide +kernel
theorem dX0_lengthOf_8 : decode cX0_lengthOf 8 = .ok (.istore_n 3, 1) := by decide +kernel
theorem dX0_lengthOf_9 : decode cX0_lengthOf 9 = .ok (.iload_n 3, 1) := by decide +kernel
theorem dX0_lengthOf_10 : decode cX0_lengthOf 10 = .ok (.ifCond .eq 23, 3) := by decide +kernel
theorem dX0_lengthOf_13 : decode cX0_lengthOf 13 = .ok (.iload_n 2, 1) := by decide +kernel
theorem dX0_lengthOf_14 : decode cX0_lengthOf 14 = .ok (.sipush 2002, 3) := by decide +kernel
theorem dX0_lengthOf_17 : decode cX0_lengthOf 17 = .ok (.if_icmp .ge 16, 3) := by decide +kernel
theorem dX0_lengthOf_20 : decode cX0_lengthOf 20 = .ok (.aload_n 0, 1) := by decide +kernel
theorem dX0_lengthOf_21 : decode cX0_lengthOf 21 = .ok (.getfield 18, 3) := by decide +kernel
theorem dX0_lengthOf_24 : decode cX0_lengthOf 24 = .ok (.iload_n 3, 1) := by decide +kernel
theorem dX0_lengthOf_25 : decode cX0_lengthOf 25 = .ok (.iaload, 1) := by decide +kernel
theorem dX0_lengthOf_26 : decode cX0_lengthOf 26 = .ok (.istore_n 3, 1) := by decide +kernel
theorem dX0_lengthOf_27 : decode cX0_lengthOf 27 = .ok (.iinc 2 1, 3) := by decide +kernel
theorem dX0_lengthOf_30 : decode cX0_lengthOf 30 = .ok (.goto (-21), 3) := by decide +kernel
theorem dX0_lengthOf_33 : decode cX0_lengthOf 33 = .ok (.iload_n 2, 1) := by decide +kernel
theorem dX0_lengthOf_34 : decode cX0_lengthOf 34 = .ok (.ireturn, 1) := by decide +kernel
theorem dX0_isLong_0 : decode cX0_isLong 0 = .ok (.aload_n 0, 1) := by decide +kernel
theorem dX0_isLong_1 : decode cX0_isLong 1 = .ok (.getfield 25, 3) := by decide +kernel
theorem dX0_isLong_4 : decode cX0_isLong 4 = .ok (.iload_n 1, 1) := by decide +kernel
theorem dX0_isLong_5 : decode cX0_isLong 5 = .ok (.iaload, 1) := by decide +kernel
theorem dX0_isLong_6 : decode cX0_isLong 6 = .ok (.istore_n 2, 1) := by decide +kernel
theorem dX0_isLong_7 : decode cX0_isLong 7 = .ok (.iconst 0, 1) := by decide +kernel
theorem dX0_isLong_8 : decode cX0_isLong 8 = .ok (.istore_n 3, 1) := by decide +kernel
theorem dX0_isLong_9 : decode cX0_isLong 9 = .ok (.iload_n 3, 1) := by decide +kernel
theorem dX0_isLong_10 : decode cX0_isLong 10 = .ok (.bipush 8, 2) := by decide +kernel
theorem dX0_isLong_12 : decode cX0_isLong 12 = .ok (.if_icmp .ge 20, 3) := by decide +kernel
theorem dX0_isLong_15 : decode cX0_isLong 15 = .ok (.iload_n 2, 1) := by decide +kernel
theorem dX0_isLong_16 : decode cX0_isLong 16 = .ok (.ifCond .eq 16, 3) := by decide +kernel
theorem dX0_isLong_19 : decode cX0_isLong 19 = .ok (.aload_n 0, 1) := by decide +kernel
theorem dX0_isLong_20 : decode cX0_isLong 20 = .ok (.getfield 18, 3) := by decide +kernel
theorem dX0_isLong_23 : decode cX0_isLong 23 = .ok (.iload_n 2, 1) := by decide +kernel
theorem dX0_isLong_24 : decode cX0_isLong 24 = .ok (.iaload, 1) := by decide +kernel
theorem dX0_isLong_25 : decode cX0_isLong 25 = .ok (.istore_n 2, 1) := by decide +kernel
theorem dX0_isLong_26 : decode cX0_isLong 26 = .ok (.iinc 3 1, 3) := by decide +kernel
theorem dX0_isLong_29 : decode cX0_isLong 29 = .ok (.goto (-20), 3) := by decide +kernel
theorem dX0_isLong_32 : decode cX0_isLong 32 = .ok (.iload_n 2, 1) := by decide +kernel
theorem dX0_isLong_33 : decode cX0_isLong 33 = .ok (.ifCond .eq 7, 3) := by decide +kernel
theorem dX0_isLong_36 : decode cX0_isLong 36 = .ok (.iconst 1, 1) := by decide +kernel
theorem dX0_isLong_37 : decode cX0_isLong 37 = .ok (.goto 4, 3) := by decide +kernel
theorem dX0_isLong_40 : decode cX0_isLong 40 = .ok (.iconst 0, 1) := by decide +kernel
theorem dX0_isLong_41 : decode cX0_isLong 41 = .ok (.ireturn, 1) := by decide +kernel
theorem dX0_placeOf_0 : decode cX0_placeOf 0 = .ok (.aload_n 0, 1) := by decide +kernel
theorem dX0_placeOf_1 : decode cX0_placeOf 1 = .ok (.iload_n 1, 1) := by decide +kernel
theorem dX0_placeOf_2 : decode cX0_placeOf 2 = .ok (.invokevirtual 102, 3) := by decide +kernel
theorem dX0_placeOf_5 : decode cX0_placeOf 5 = .ok (.istore_n 2, 1) := by decide +kernel
theorem dX0_placeOf_6 : decode cX0_placeOf 6 = .ok (.iload_n 2, 1) := by decide +kernel
theorem dX0_placeOf_7 : decode cX0_placeOf 7 = .ok (.iload_n 2, 1) := by decide +kernel
theorem dX0_placeOf_8 : decode cX0_placeOf 8 = .ok (.bipush 16, 2) := by decide +kernel
theorem dX0_placeOf_10 : decode cX0_placeOf 10 = .ok (.iushr, 1) := by decide +kernel
theorem dX0_placeOf_11 : decode cX0_placeOf 11 = .ok (.ixor, 1) := by decide +kernel
theorem dX0_placeOf_12 : decode cX0_placeOf 12 = .ok (.aload_n 0, 1) := by decide +kernel
theorem dX0_placeOf_13 : decode cX0_placeOf 13 = .ok (.getfield 31, 3) := by decide +kernel
theorem dX0_placeOf_16 : decode cX0_placeOf 16 = .ok (.iconst 1, 1) := by decide +kernel
theorem dX0_placeOf_17 : decode cX0_placeOf 17 = .ok (.isub, 1) := by decide +kernel
theorem dX0_placeOf_18 : decode cX0_placeOf 18 = .ok (.iand, 1) := by decide +kernel
theorem dX0_placeOf_19 : decode cX0_placeOf 19 = .ok (.ireturn, 1) := by decide +kernel
theorem dX0_codeOf_0 : decode cX0_codeOf 0 = .ok (.aload_n 0, 1) := by decide +kernel
theorem dX0_codeOf_1 : decode cX0_codeOf 1 = .ok (.getfield 35, 3) := by decide +kernel
theorem dX0_codeOf_4 : decode cX0_codeOf 4 = .ok (.lookupswitch 37 #[(1, 28), (2, 32)], 28) := by decide +kernel
theorem dX0_codeOf_32 : decode cX0_codeOf 32 = .ok (.iload_n 1, 1) := by decide +kernel
theorem dX0_codeOf_33 : decode cX0_codeOf 33 = .ok (.iconst 3, 1) := by decide +kernel
theorem dX0_codeOf_34 : decode cX0_codeOf 34 = .ok (.iand, 1) := by decide +kernel
theorem dX0_codeOf_35 : decode cX0_codeOf 35 = .ok (.ireturn, 1) := by decide +kernel
theorem dX0_codeOf_36 : decode cX0_codeOf 36 = .ok (.iload_n 1, 1) := by decide +kernel
theorem dX0_codeOf_37 : decode cX0_codeOf 37 = .ok (.ldc 105, 2) := by decide +kernel
theorem dX0_codeOf_39 : decode cX0_codeOf 39 = .ok (.imul, 1) := by decide +kernel
theorem dX0_codeOf_40 : decode cX0_codeOf 40 = .ok (.ireturn, 1) := by decide +kernel
theorem dX0_codeOf_41 : decode cX0_codeOf 41 = .ok (.iload_n 1, 1) := by decide +kernel
theorem dX0_codeOf_42 : decode cX0_codeOf 42 = .ok (.ireturn, 1) := by decide +kernel
theorem dX0_append_0 : decode cX0_append 0 = .ok (.aload_n 0, 1) := by decide +kernel
theorem dX0_append_1 : decode cX0_append 1 = .ok (.getfield 25, 3) := by decide +kernel
theorem dX0_append_4 : decode cX0_append 4 = .ok (.iload_n 1, 1) := by decide +kernel
theorem dX0_append_5 : decode cX0_append 5 = .ok (.iaload, 1) := by decide +kernel
theorem dX0_append_6 : decode cX0_append 6 = .ok (.istore_n 3, 1) := by decide +kernel
theorem dX0_append_7 : decode cX0_append 7 = .ok (.aload_n 0, 1) := by decide +kernel
theorem dX0_append_8 : decode cX0_append 8 = .ok (.getfield 18, 3) := by decide +kernel
theorem dX0_append_11 : decode cX0_append 11 = .ok (.iload_n 2, 1) := by decide +kernel
theorem dX0_append_12 : decode cX0_append 12 = .ok (.iconst 0, 1) := by decide +kernel
theorem dX0_append_13 : decode cX0_append 13 = .ok (.iastore, 1) := by decide +kernel
theorem dX0_append_14 : decode cX0_append 14 = .ok (.iload_n 3, 1) := by decide +kernel
theorem dX0_append_15 : decode cX0_append 15 = .ok (.ifCond .ne 20, 3) := by decide +kernel
theorem dX0_append_18 : decode cX0_append 18 = .ok (.aload_n 0, 1) := by decide +kernel
theorem dX0_append_19 : decode cX0_append 19 = .ok (.getfield 25, 3) := by decide +kernel
theorem dX0_append_22 : decode cX0_append 22 = .ok (.iload_n 1, 1) := by decide +kernel
theorem dX0_append_23 : decode cX0_append 23 = .ok (.iload_n 2, 1) := by decide +kernel
theorem dX0_append_24 : decode cX0_append 24 = .ok (.iastore, 1) := by decide +kernel
theorem dX0_append_25 : decode cX0_append 25 = .ok (.aload_n 0, 1) := by decide +kernel
theorem dX0_append_26 : decode cX0_append 26 = .ok (.getfield 22, 3) := by decide +kernel
theorem dX0_append_29 : decode cX0_append 29 = .ok (.iload_n 2, 1) := by decide +kernel
theorem dX0_append_30 : decode cX0_append 30 = .ok (.iload_n 2, 1) := by decide +kernel
theorem dX0_append_31 : decode cX0_append 31 = .ok (.iastore, 1) := by decide +kernel
theorem dX0_append_32 : decode cX0_append 32 = .ok (.goto 34, 3) := by decide +kernel
theorem dX0_append_35 : decode cX0_append 35 = .ok (.aload_n 0, 1) := by decide +kernel
theorem dX0_append_36 : decode cX0_append 36 = .ok (.getfield 22, 3) := by decide +kernel
theorem dX0_append_39 : decode cX0_append 39 = .ok (.iload_n 3, 1) := by decide +kernel
theorem dX0_append_40 : decode cX0_append 40 = .ok (.iaload, 1) := by decide +kernel
theorem dX0_append_41 : decode cX0_append 41 = .ok (.istore 4, 2) := by decide +kernel
theorem dX0_append_43 : decode cX0_append 43 = .ok (.aload_n 0, 1) := by decide +kernel
theorem dX0_append_44 : decode cX0_append 44 = .ok (.getfield 18, 3) := by decide +kernel
theorem dX0_append_47 : decode cX0_append 47 = .ok (.iload 4, 2) := by decide +kernel
theorem dX0_append_49 : decode cX0_append 49 = .ok (.iload_n 2, 1) := by decide +kernel
theorem dX0_append_50 : decode cX0_append 50 = .ok (.iastore, 1) := by decide +kernel
theorem dX0_append_51 : decode cX0_append 51 = .ok (.aload_n 0, 1) := by decide +kernel
theorem dX0_append_52 : decode cX0_append 52 = .ok (.getfield 22, 3) := by decide +kernel
theorem dX0_append_55 : decode cX0_append 55 = .ok (.iload_n 2, 1) := by decide +kernel
theorem dX0_append_56 : decode cX0_append 56 = .ok (.iload 4, 2) := by decide +kernel
theorem dX0_append_58 : decode cX0_append 58 = .ok (.iastore, 1) := by decide +kernel
theorem dX0_append_59 : decode cX0_append 59 = .ok (.aload_n 0, 1) := by decide +kernel
theorem dX0_append_60 : decode cX0_append 60 = .ok (.getfield 22, 3) := by decide +kernel
theorem dX0_append_63 : decode cX0_append 63 = .ok (.iload_n 3, 1) := by decide +kernel
theorem dX0_append_64 : decode cX0_append 64 = .ok (.iload_n 2, 1) := by decide +kernel
theorem dX0_append_65 : decode cX0_append 65 = .ok (.iastore, 1) := by decide +kernel
theorem dX0_append_66 : decode cX0_append 66 = .ok (.return_, 1) := by decide +kernel
theorem dX0_unlink_0 : decode cX0_unlink 0 = .ok (.aload_n 0, 1) := by decide +kernel
theorem dX0_unlink_1 : decode cX0_unlink 1 = .ok (.getfield 25, 3) := by decide +kernel
theorem dX0_unlink_4 : decode cX0_unlink 4 = .ok (.iload_n 1, 1) := by decide +kernel
theorem dX0_unlink_5 : decode cX0_unlink 5 = .ok (.iaload, 1) := by decide +kernel
theorem dX0_unlink_6 : decode cX0_unlink 6 = .ok (.istore_n 3, 1) := by decide +kernel
theorem dX0_unlink_7 : decode cX0_unlink 7 = .ok (.aload_n 0, 1) := by decide +kernel
theorem dX0_unlink_8 : decode cX0_unlink 8 = .ok (.getfield 22, 3) := by decide +kernel
theorem dX0_unlink_11 : decode cX0_unlink 11 = .ok (.iload_n 2, 1) := by decide +kernel
theorem dX0_unlink_12 : decode cX0_unlink 12 = .ok (.iaload, 1) := by decide +kernel
theorem dX0_unlink_13 : decode cX0_unlink 13 = .ok (.istore 4, 2) := by decide +kernel
theorem dX0_unlink_15 : decode cX0_unlink 15 = .ok (.aload_n 0, 1) := by decide +kernel
theorem dX0_unlink_16 : decode cX0_unlink 16 = .ok (.getfield 18, 3) := by decide +kernel
theorem dX0_unlink_19 : decode cX0_unlink 19 = .ok (.iload_n 2, 1) := by decide +kernel
theorem dX0_unlink_20 : decode cX0_unlink 20 = .ok (.iaload, 1) := by decide +kernel
theorem dX0_unlink_21 : decode cX0_unlink 21 = .ok (.istore 5, 2) := by decide +kernel
theorem dX0_unlink_23 : decode cX0_unlink 23 = .ok (.iload_n 2, 1) := by decide +kernel
theorem dX0_unlink_24 : decode cX0_unlink 24 = .ok (.iload_n 3, 1) := by decide +kernel
theorem dX0_unlink_25 : decode cX0_unlink 25 = .ok (.if_icmp .ne 14, 3) := by decide +kernel
theorem dX0_unlink_28 : decode cX0_unlink 28 = .ok (.aload_n 0, 1) := by decide +kernel
theorem dX0_unlink_29 : decode cX0_unlink 29 = .ok (.getfield 25, 3) := by decide +kernel
theorem dX0_unlink_32 : decode cX0_unlink 32 = .ok (.iload_n 1, 1) := by decide +kernel
theorem dX0_unlink_33 : decode cX0_unlink 33 = .ok (.iload 5, 2) := by decide +kernel
theorem dX0_unlink_35 : decode cX0_unlink 35 = .ok (.iastore, 1) := by decide +kernel
theorem dX0_unlink_36 : decode cX0_unlink 36 = .ok (.goto 12, 3) := by decide +kernel
theorem dX0_unlink_39 : decode cX0_unlink 39 = .ok (.aload_n 0, 1) := by decide +kernel
theorem dX0_unlink_40 : decode cX0_unlink 40 = .ok (.getfield 18, 3) := by decide +kernel
theorem dX0_unlink_43 : decode cX0_unlink 43 = .ok (.iload 4, 2) := by decide +kernel
theorem dX0_unlink_45 : decode cX0_unlink 45 = .ok (.iload 5, 2) := by decide +kernel
theorem dX0_unlink_47 : decode cX0_unlink 47 = .ok (.iastore, 1) := by decide +kernel
theorem dX0_unlink_48 : decode cX0_unlink 48 = .ok (.iload 5, 2) := by decide +kernel
theorem dX0_unlink_50 : decode cX0_unlink 50 = .ok (.ifCond .eq 15, 3) := by decide +kernel
theorem dX0_unlink_53 : decode cX0_unlink 53 = .ok (.aload_n 0, 1) := by decide +kernel
theorem dX0_unlink_54 : decode cX0_unlink 54 = .ok (.getfield 22, 3) := by decide +kernel
theorem dX0_unlink_57 : decode cX0_unlink 57 = .ok (.iload 5, 2) := by decide +kernel
theorem dX0_unlink_59 : decode cX0_unlink 59 = .ok (.iload 4, 2) := by decide +kernel
theorem dX0_unlink_61 : decode cX0_unlink 61 = .ok (.iastore, 1) := by decide +kernel
theorem dX0_unlink_62 : decode cX0_unlink 62 = .ok (.goto 16, 3) := by decide +kernel
theorem dX0_unlink_65 : decode cX0_unlink 65 = .ok (.iload_n 2, 1) := by decide +kernel
theorem dX0_unlink_66 : decode cX0_unlink 66 = .ok (.iload_n 3, 1) := by decide +kernel
theorem dX0_unlink_67 : decode cX0_unlink 67 = .ok (.if_icmp .eq 11, 3) := by decide +kernel
theorem dX0_unlink_70 : decode cX0_unlink 70 = .ok (.aload_n 0, 1) := by decide +kernel
theorem dX0_unlink_71 : decode cX0_unlink 71 = .ok (.getfield 22, 3) := by decide +kernel
theorem dX0_unlink_74 : decode cX0_unlink 74 = .ok (.iload_n 3, 1) := by decide +kernel
theorem dX0_unlink_75 : decode cX0_unlink 75 = .ok (.iload 4, 2) := by decide +kernel
theorem dX0_unlink_77 : decode cX0_unlink 77 = .ok (.iastore, 1) := by decide +kernel
theorem dX0_unlink_78 : decode cX0_unlink 78 = .ok (.return_, 1) := by decide +kernel
theorem dJ7_fill_0 : decode cJ7_fill 0 = .ok (.iconst 0, 1) := by decide +kernel
theorem dJ7_fill_1 : decode cJ7_fill 1 = .ok (.istore_n 2, 1) := by decide +kernel
theorem dJ7_fill_2 : decode cJ7_fill 2 = .ok (.aload_n 0, 1) := by decide +kernel
theorem dJ7_fill_3 : decode cJ7_fill 3 = .ok (.arraylength, 1) := by decide +kernel
theorem dJ7_fill_4 : decode cJ7_fill 4 = .ok (.istore_n 3, 1) := by decide +kernel
theorem dJ7_fill_5 : decode cJ7_fill 5 = .ok (.iload_n 2, 1) := by decide +kernel
theorem dJ7_fill_6 : decode cJ7_fill 6 = .ok (.iload_n 3, 1) := by decide +kernel
theorem dJ7_fill_7 : decode cJ7_fill 7 = .ok (.if_icmp .ge 13, 3) := by decide +kernel
theorem dJ7_fill_10 : decode cJ7_fill 10 = .ok (.aload_n 0, 1) := by decide +kernel
theorem dJ7_fill_11 : decode cJ7_fill 11 = .ok (.iload_n 2, 1) := by decide +kernel
theorem dJ7_fill_12 : decode cJ7_fill 12 = .ok (.iload_n 1, 1) := by decide +kernel
theorem dJ7_fill_13 : decode cJ7_fill 13 = .ok (.iastore, 1) := by decide +kernel
theorem dJ7_fill_14 : decode cJ7_fill 14 = .ok (.iinc 2 1, 3) := by decide +kernel
theorem dJ7_fill_17 : decode cJ7_fill 17 = .ok (.goto (-12), 3) := by decide +kernel
theorem dJ7_fill_20 : decode cJ7_fill 20 = .ok (.return_, 1) := by decide +kernel
end
section
theorem xs_alen {X : xz_X} {cA : ClassId} {own : String} {cc : ByteArray} {nL : Nat} {ret : Option FieldType} {R : Room} {ws : va_W} {k n pc : Nat} {L : List (Nat × Value)} {st : List Value} {a N : Nat} {f : Nat → Int32} (q0 : Nat) (d : decode cc pc = .ok (.arraylength, 1)) (he : ws[q0]? = some (a, .inl (cA, N, .inl f)))
    (kk : xs X cA own cc nL ret R ws k n (pc + 1) L (.int (nI N) :: st)) : xs X cA own cc nL ret R ws k n pc L (.ref a :: st) := by
  obtain ⟨p, l, e, s, m, args, below, meth, c, D, A, Q, ty2⟩ := X
  intro v H locs ls hP hD hS hl
  obtain ⟨⟨hx, hb, hml, hown, hts⟩, hK, hA, hlk, hr, hfl, hns⟩ := id v
  exact va_alen hx hb hK hP q0 0 he rfl (v := nI N) rfl d (kk v H locs ls hP hD hS hl)
theorem fill_0 (s : zT) (r : Nat) : mFillL s r 0 = s := by
  unfold mFillL
  refine Prod.ext ?_ rfl
  funext q i
  show (bif Nat.beq q r then (fun i => if i < 0 then 0 else s.1 q i) else s.1 q) i = s.1 q i
  cases Nat.beq q r with
  | true => exact (if_neg (Nat.not_lt_zero i) : (if i < 0 then (0 : zS) else s.1 q i) = s.1 q i)
  | false => rfl
theorem fill_s (s : zT) (r n : Nat) : u1 (mFillL s r n) r n 0 = mFillL s r (n + 1) := by
  refine Prod.ext ?_ rfl
  funext q i
  show (bif Nat.beq q r then zup (bif Nat.beq q r then (fun i => if i < n then 0 else s.1 q i) else s.1 q) n 0 else (bif Nat.beq q r then (fun i => if i < n then 0 else s.1 q i) else s.1 q)) i = (bif Nat.beq q r then (fun i => if i < n + 1 then 0 else s.1 q i) else s.1 q) i
  cases Nat.beq q r with
  | false => rfl
  | true =>
    show (if i = n then 0 else if i < n then 0 else s.1 q i) = if i < n + 1 then 0 else s.1 q i
    by_cases h : i = n
    · rw [if_pos h, if_pos (by omega)]
    · rw [if_neg h]
      by_cases h2 : i < n
      · rw [if_pos h2, if_pos (by omega)]
      · rw [if_neg h2, if_neg (by omega)]
abbrev R_fill : Room := { frames := 0, cells := 0, slots := 0, locals := 0 }
theorem kw_fill : xwS RX0 41 yJ7_fill cJ7_fill 4 none 2 := ⟨⟨xt_of (List.mem_of_getElem? (i := 199) rfl) rfl, xt_of (by decide +kernel) rfl, xt_of (by decide +kernel) rfl, by decide +kernel⟩, xt_of (by decide +kernel) rfl⟩
set_option maxHeartbeats 4000000 in
set_option maxRecDepth 100000 in
theorem t_fill_S4 {X : xz_X} {ad : Nat → Nat} {cA : ClassId} {s : zT} : ∀ (n i : Nat), i + n = 4096 → xfin X cA 0 0 none (wd ad cA (mFill s 4)) → xs X cA RJ7 cJ7_fill 4 none R_fill (wd ad cA (mFillL s 4 i)) 0 0 5 [(3, .int (nI 4096)), (2, .int (nI i)), (1, .int (zs 0)), (0, .ref (ad 7))] [] := by
  intro n
  induction n with
  | zero =>
    intro i hi hX
    refine xs_iload_n 1 dJ7_fill_5 rfl ?_
    refine xs_iload_n 0 dJ7_fill_6 rfl ?_
    refine xs_icmp_ge (t := 20) dJ7_fill_7 (by decide) (fun c7 => ?_) (fun c7 => ?_)
    · exact xs_vret hX rfl dJ7_fill_20 (by rw [show i = 4096 by omega]; rfl)
    · exact absurd (kn_le (m := 4096) (by omega) (by omega)) c7
  | succ n ih =>
    intro i hi hX
    refine xs_iload_n 1 dJ7_fill_5 rfl ?_
    refine xs_iload_n 0 dJ7_fill_6 rfl ?_
    refine xs_icmp_ge (t := 20) dJ7_fill_7 (by decide) (fun c7 => ?_) (fun c7 => ?_)
    · exact absurd c7 (kn_nle (m := 4096) (by omega) (by decide))
    · refine xs_aload_n 3 dJ7_fill_10 rfl ?_
      refine xs_iload_n 1 dJ7_fill_11 rfl ?_
      refine xs_iload_n 2 dJ7_fill_12 rfl ?_
      refine asn_S4 dJ7_fill_13 (by omega) ?_
      refine xs_iinc_n (L' := [(2, _), (3, _), (1, _), (0, _)]) 1 dJ7_fill_14 rfl (by decide) rfl ?_
      refine xs_goto (t := 5) dJ7_fill_17 (by decide) ?_
      rw [fill_s]
      refine xs_sub (L' := [(3, _), (2, _), (1, _), (0, _)]) [1, 0, 2, 3] rfl ?_
      exact ih _ (by omega) hX
set_option maxHeartbeats 4000000 in
set_option maxRecDepth 100000 in
theorem c_fill_S4 (ad : Nat → Nat) (cA : ClassId) (s : zT) : xct cA yJ7_fill cJ7_fill 4 none R_fill [.ref (ad 7), .int (zs 0)] (wd ad cA s) none (wd ad cA (mFill s 4)) := by
  refine xct_of (own := RJ7) (by decide) rfl (Nat.le_of_ble_eq_true rfl) (fun X hX => ?_)
  show xs X cA RJ7 cJ7_fill 4 none R_fill (wd ad cA s) 0 0 0 [(0, .ref (ad 7)), (1, .int (zs 0))] []
  refine xs_iconst (v := nI 0) dJ7_fill_0 rfl ?_
  refine xs_istore_n (L' := [(2, _), (0, _), (1, _)]) dJ7_fill_1 (by decide) rfl ?_
  refine xs_aload_n 1 dJ7_fill_2 rfl ?_
  refine xs_alen (N := 4096) 7 dJ7_fill_3 rfl ?_
  refine xs_istore_n (L' := [(3, _), (2, _), (0, _), (1, _)]) dJ7_fill_4 (by decide) rfl ?_
  refine xs_sub (L' := [(3, _), (2, _), (1, _), (0, _)]) [0, 1, 3, 2] rfl ?_
  rw [← fill_0 s 4]
  exact t_fill_S4 4096 0 rfl hX
theorem k_fill_S4 {X : xz_X} {cA : ClassId} {own : String} {ad : Nat → Nat} {cc : ByteArray} {nL : Nat} {ret : Option FieldType} {R : Room} {s : zT} {pc ix : Nat} {L : List (Nat × Value)} {st : List Value} (d : decode cc pc = .ok (.invokestatic ix, 3)) (hw : xwS own ix yJ7_fill cJ7_fill 4 none 2) (hR : xroom R_fill 4 R) (hst : (st.map fun v => v.category).sum ≤ 8) (kk : xs X cA own cc nL ret R (wd ad cA (mFill s 4)) 0 0 (pc + 3) L st) : xs X cA own cc nL ret R (wd ad cA s) 0 0 pc L (.int (zs 0) :: .ref (ad 7) :: st) :=
  xs_callS (c_fill_S4 ad cA s) rfl rfl d hw hR rfl hst ⟨Nat.zero_le _, Nat.zero_le _⟩ kk
set_option maxHeartbeats 4000000 in
set_option maxRecDepth 100000 in
theorem t_fill_S5 {X : xz_X} {ad : Nat → Nat} {cA : ClassId} {s : zT} : ∀ (n i : Nat), i + n = 4096 → xfin X cA 0 0 none (wd ad cA (mFill s 5)) → xs X cA RJ7 cJ7_fill 4 none R_fill (wd ad cA (mFillL s 5 i)) 0 0 5 [(3, .int (nI 4096)), (2, .int (nI i)), (1, .int (zs 0)), (0, .ref (ad 8))] [] := by
  intro n
  induction n with
  | zero =>
    intro i hi hX
    refine xs_iload_n 1 dJ7_fill_5 rfl ?_
    refine xs_iload_n 0 dJ7_fill_6 rfl ?_
    refine xs_icmp_ge (t := 20) dJ7_fill_7 (by decide) (fun c7 => ?_) (fun c7 => ?_)
    · exact xs_vret hX rfl dJ7_fill_20 (by rw [show i = 4096 by omega]; rfl)
    · exact absurd (kn_le (m := 4096) (by omega) (by omega)) c7
  | succ n ih =>
    intro i hi hX
    refine xs_iload_n 1 dJ7_fill_5 rfl ?_
    refine xs_iload_n 0 dJ7_fill_6 rfl ?_
    refine xs_icmp_ge (t := 20) dJ7_fill_7 (by decide) (fun c7 => ?_) (fun c7 => ?_)
    · exact absurd c7 (kn_nle (m := 4096) (by omega) (by decide))
    · refine xs_aload_n 3 dJ7_fill_10 rfl ?_
      refine xs_iload_n 1 dJ7_fill_11 rfl ?_
      refine xs_iload_n 2 dJ7_fill_12 rfl ?_
      refine asn_S5 dJ7_fill_13 (by omega) ?_
      refine xs_iinc_n (L' := [(2, _), (3, _), (1, _), (0, _)]) 1 dJ7_fill_14 rfl (by decide) rfl ?_
      refine xs_goto (t := 5) dJ7_fill_17 (by decide) ?_
      rw [fill_s]
      refine xs_sub (L' := [(3, _), (2, _), (1, _), (0, _)]) [1, 0, 2, 3] rfl ?_
      exact ih _ (by omega) hX
set_option maxHeartbeats 4000000 in
set_option maxRecDepth 100000 in
theorem c_fill_S5 (ad : Nat → Nat) (cA : ClassId) (s : zT) : xct cA yJ7_fill cJ7_fill 4 none R_fill [.ref (ad 8), .int (zs 0)] (wd ad cA s) none (wd ad cA (mFill s 5)) := by
  refine xct_of (own := RJ7) (by decide) rfl (Nat.le_of_ble_eq_true rfl) (fun X hX => ?_)
  show xs X cA RJ7 cJ7_fill 4 none R_fill (wd ad cA s) 0 0 0 [(0, .ref (ad 8)), (1, .int (zs 0))] []
  refine xs_iconst (v := nI 0) dJ7_fill_0 rfl ?_
  refine xs_istore_n (L' := [(2, _), (0, _), (1, _)]) dJ7_fill_1 (by decide) rfl ?_
  refine xs_aload_n 1 dJ7_fill_2 rfl ?_
  refine xs_alen (N := 4096) 8 dJ7_fill_3 rfl ?_
  refine xs_istore_n (L' := [(3, _), (2, _), (0, _), (1, _)]) dJ7_fill_4 (by decide) rfl ?_
  refine xs_sub (L' := [(3, _), (2, _), (1, _), (0, _)]) [0, 1, 3, 2] rfl ?_
  rw [← fill_0 s 5]
  exact t_fill_S5 4096 0 rfl hX
theorem k_fill_S5 {X : xz_X} {cA : ClassId} {own : String} {ad : Nat → Nat} {cc : ByteArray} {nL : Nat} {ret : Option FieldType} {R : Room} {s : zT} {pc ix : Nat} {L : List (Nat × Value)} {st : List Value} (d : decode cc pc = .ok (.invokestatic ix, 3)) (hw : xwS own ix yJ7_fill cJ7_fill 4 none 2) (hR : xroom R_fill 4 R) (hst : (st.map fun v => v.category).sum ≤ 8) (kk : xs X cA own cc nL ret R (wd ad cA (mFill s 5)) 0 0 (pc + 3) L st) : xs X cA own cc nL ret R (wd ad cA s) 0 0 pc L (.int (zs 0) :: .ref (ad 8) :: st) :=
  xs_callS (c_fill_S5 ad cA s) rfl rfl d hw hR rfl hst ⟨Nat.zero_le _, Nat.zero_le _⟩ kk
abbrev R_Bi_code : Room := { frames := 0, cells := 0, slots := 0, locals := 0 }
set_option maxHeartbeats 4000000 in
set_option maxRecDepth 100000 in
theorem c_Bi_code (ad : Nat → Nat) (cA : ClassId) (s : zT) (key : Int32) : xct cA yX0_codeOf cX0_codeOf 2 (some .int) R_Bi_code [.ref (ad 1), .int key] (wd ad cA s) (some (.int (mBi_code s key))) (wd ad cA s) := by
  refine xct_of (own := RX0) (by decide) rfl (Nat.le_of_ble_eq_true rfl) (fun X hX => ?_)
  show xs X cA RX0 cX0_codeOf 2 (some .int) R_Bi_code (wd ad cA s) 0 0 0 [(0, .ref (ad 1)), (1, .int key)] []
  refine xs_aload_n 0 dX0_codeOf_0 rfl ?_
  refine g_Bi_function dX0_codeOf_1 ?_
  by_cases h1 : s.2 4 4 = 1
  · refine xs_lookup (t := 32) (off := 28) dX0_codeOf_4 (by decide) (by rw [h1]; decide) (by decide) ?_
    refine xs_iload_n 1 dX0_codeOf_32 rfl ?_
    refine xs_iconst (v := 3) dX0_codeOf_33 (by decide) ?_
    refine xs_iand dX0_codeOf_34 ?_
    exact xs_iret hX rfl dX0_codeOf_35 (by simp only [mBi_code, if_pos h1]) rfl
  · by_cases h2 : s.2 4 4 = 2
    · refine xs_lookup (t := 36) (off := 32) dX0_codeOf_4 (by decide) (by rw [h2]; decide) (by decide) ?_
      refine xs_iload_n 1 dX0_codeOf_36 rfl ?_
      refine xs_ldc (v := (-1640531527)) dX0_codeOf_37 (xt_of (by decide +kernel) rfl) ?_
      refine xs_imul dX0_codeOf_39 ?_
      exact xs_iret hX rfl dX0_codeOf_40 (by simp only [mBi_code, if_neg h1, if_pos h2]) rfl
    · refine xs_lookup (t := 41) (off := 37) dX0_codeOf_4 (by decide) ?_ (by decide) ?_
      · show Op.lookupswitch.offset [(1, 28), (2, 32)] 37 (s.2 4 4).toInt = 37
        rw [Op.lookupswitch.offset_cons, if_neg (fun q => h1 (Int32.toInt_inj.mp (show (s.2 4 4).toInt = (1 : Int32).toInt from q.symm.trans (by decide)))), Op.lookupswitch.offset_cons, if_neg (fun q => h2 (Int32.toInt_inj.mp (show (s.2 4 4).toInt = (2 : Int32).toInt from q.symm.trans (by decide)))), Op.lookupswitch.offset_nil]
      · refine xs_iload_n 1 dX0_codeOf_41 rfl ?_
        exact xs_iret hX rfl dX0_codeOf_42 (by simp only [mBi_code, if_neg h1, if_neg h2]) rfl
theorem k_Bi_code {X : xz_X} {cA : ClassId} {own : String} {ad : Nat → Nat} {cc : ByteArray} {nL : Nat} {ret : Option FieldType} {R : Room} {s : zT} {pc ix : Nat} {L : List (Nat × Value)} {st : List Value} {key : Int32} (d : decode cc pc = .ok (.invokevirtual ix, 3)) (hw : xwV own ix yX0_codeOf cX0_codeOf 2 (some .int) 1) (hR : xroom R_Bi_code 2 R) (hst : (st.map fun v => v.category).sum ≤ 8) (kk : xs X cA own cc nL ret R (wd ad cA s) 0 0 (pc + 3) L (.int (mBi_code s key) :: st)) : xs X cA own cc nL ret R (wd ad cA s) 0 0 pc L (.int key :: .ref (ad 1) :: st) :=
  xs_call 1 (c_Bi_code ad cA s key) rfl rfl d hw hR rfl rfl rfl hst ⟨Nat.zero_le _, Nat.zero_le _⟩ kk

abbrev R_Bi_keyOf : Room := { frames := 1, cells := 0, slots := 0, locals := 21 }
set_option maxRecDepth 100000 in
theorem kw_Bi_Tr_keyOf : xwV RX0 47 yX2_keyOf cX2_keyOf 2 (some .int) 1 := ⟨⟨xt_of (List.mem_of_getElem? (i := 176) rfl) rfl, xt_of (by decide +kernel) rfl, xt_of (by decide +kernel) rfl, by decide +kernel⟩, xt_of (by decide +kernel) rfl, xt_of (by decide +kernel) rfl⟩
set_option maxHeartbeats 4000000 in
set_option maxRecDepth 100000 in
theorem c_Bi_keyOf (ad : Nat → Nat) (cA : ClassId) (s : zT) (a : zS) : xct cA yX0_keyOf cX0_keyOf 2 (some .int) R_Bi_keyOf [.ref (ad 1), .int (zs a)] (wd ad cA s) (some (.int (s.2 0 a))) (wd ad cA (s)) := by
  refine xct_of (own := RX0) (by decide) rfl (Nat.le_of_ble_eq_true rfl) (fun X hX => ?_)
  show xs X cA RX0 cX0_keyOf 2 (some .int) R_Bi_keyOf (wd ad cA s) 0 0 0 [(0, .ref (ad 1)), (1, .int (zs a))] []
  refine xs_aload_n 0 dX0_keyOf_0 rfl ?_
  refine g_Bi_trees dX0_keyOf_1 ?_
  refine xs_iload_n 1 dX0_keyOf_4 rfl ?_
  refine k_Tr_keyOf dX0_keyOf_5 kw_Bi_Tr_keyOf (by decide) (Nat.le_of_ble_eq_true rfl) ?_
  exact xs_iret hX rfl dX0_keyOf_8 rfl rfl
theorem k_Bi_keyOf {X : xz_X} {cA : ClassId} {own : String} {ad : Nat → Nat} {cc : ByteArray} {nL : Nat} {ret : Option FieldType} {R : Room} {s : zT} {pc ix : Nat} {L : List (Nat × Value)} {st : List Value} {a : zS} (d : decode cc pc = .ok (.invokevirtual ix, 3)) (hw : xwV own ix yX0_keyOf cX0_keyOf 2 (some .int) 1) (hR : xroom R_Bi_keyOf 2 R) (hst : (st.map fun v => v.category).sum ≤ 8) (kk : xs X cA own cc nL ret R (wd ad cA (s)) 0 0 (pc + 3) L (.int (s.2 0 a) :: st)) : xs X cA own cc nL ret R (wd ad cA s) 0 0 pc L (.int (zs a) :: .ref (ad 1) :: st) :=
  xs_call 1 (c_Bi_keyOf ad cA s a) rfl rfl d hw hR rfl rfl rfl hst ⟨Nat.zero_le _, Nat.zero_le _⟩ kk
abbrev R_Bi_name : Room := { frames := 1, cells := 0, slots := 0, locals := 22 }
set_option maxRecDepth 100000 in
theorem kw_Bi_Tr_name : xwV RX0 51 yX2_name cX2_name 3 none 2 := ⟨⟨xt_of (List.mem_of_getElem? (i := 427) rfl) rfl, xt_of (by decide +kernel) rfl, xt_of (by decide +kernel) rfl, by decide +kernel⟩, xt_of (by decide +kernel) rfl, xt_of (by decide +kernel) rfl⟩
set_option maxHeartbeats 4000000 in
set_option maxRecDepth 100000 in
theorem c_Bi_name (ad : Nat → Nat) (cA : ClassId) (s : zT) (a : zS) (x : Int32) : xct cA yX0_name cX0_name 3 none R_Bi_name [.ref (ad 1), .int (zs a), .int x] (wd ad cA s) none (wd ad cA (u2 s 0 a x)) := by
  refine xct_of (own := RX0) (by decide) rfl (Nat.le_of_ble_eq_true rfl) (fun X hX => ?_)
  show xs X cA RX0 cX0_name 3 none R_Bi_name (wd ad cA s) 0 0 0 [(0, .ref (ad 1)), (1, .int (zs a)), (2, .int x)] []
  refine xs_aload_n 0 dX0_name_0 rfl ?_
  refine g_Bi_trees dX0_name_1 ?_
  refine xs_iload_n 1 dX0_name_4 rfl ?_
  refine xs_iload_n 2 dX0_name_5 rfl ?_
  refine k_Tr_name dX0_name_6 kw_Bi_Tr_name (by decide) (Nat.le_of_ble_eq_true rfl) ?_
  exact xs_vret hX rfl dX0_name_9 rfl
theorem k_Bi_name {X : xz_X} {cA : ClassId} {own : String} {ad : Nat → Nat} {cc : ByteArray} {nL : Nat} {ret : Option FieldType} {R : Room} {s : zT} {pc ix : Nat} {L : List (Nat × Value)} {st : List Value} {a : zS} {x : Int32} (d : decode cc pc = .ok (.invokevirtual ix, 3)) (hw : xwV own ix yX0_name cX0_name 3 none 2) (hR : xroom R_Bi_name 3 R) (hst : (st.map fun v => v.category).sum ≤ 8) (kk : xs X cA own cc nL ret R (wd ad cA (u2 s 0 a x)) 0 0 (pc + 3) L (st)) : xs X cA own cc nL ret R (wd ad cA s) 0 0 pc L (.int x :: .int (zs a) :: .ref (ad 1) :: st) :=
  xs_call 1 (c_Bi_name ad cA s a x) rfl rfl d hw hR rfl rfl rfl hst ⟨Nat.zero_le _, Nat.zero_le _⟩ kk
abbrev R_Bi_tight : Room := { frames := 0, cells := 0, slots := 0, locals := 0 }
set_option maxHeartbeats 4000000 in
set_option maxRecDepth 100000 in
theorem c_Bi_tight (ad : Nat → Nat) (cA : ClassId) (s : zT) (c : Int32) : xct cA yX0_isTight cX0_isTight 2 (some .boolean) R_Bi_tight [.ref (ad 1), .int c] (wd ad cA s) (some (.int (zb (mBi_tight s c)))) (wd ad cA (s)) := by
  refine xct_of (own := RX0) (by decide) rfl (Nat.le_of_ble_eq_true rfl) (fun X hX => ?_)
  show xs X cA RX0 cX0_isTight 2 (some .boolean) R_Bi_tight (wd ad cA s) 0 0 0 [(0, .ref (ad 1)), (1, .int c)] []
  refine xs_iload_n 1 dX0_isTight_0 rfl ?_
  refine xs_iconst (v := 4) dX0_isTight_1 (by decide) ?_
  refine xs_imul dX0_isTight_2 ?_
  refine xs_aload_n 0 dX0_isTight_3 rfl ?_
  refine g_Bi_room dX0_isTight_4 ?_
  refine xs_iconst (v := 3) dX0_isTight_7 (by decide) ?_
  refine xs_imul dX0_isTight_8 ?_
  refine xs_icmp_le (t := 26) dX0_isTight_9 (by decide) (fun c9 => ?_) (fun c9 => ?_)
  · refine xs_iconst (v := zb false) dX0_isTight_26 rfl ?_
    exact xs_zret hX rfl dX0_isTight_27 (by simp [mBi_tight, c9]) rfl
  · refine xs_aload_n 0 dX0_isTight_12 rfl ?_
    refine g_Bi_room dX0_isTight_13 ?_
    refine xs_sipush (v := 4096) dX0_isTight_16 (by decide) ?_
    refine xs_icmp_ge (t := 26) dX0_isTight_19 (by decide) (fun c19 => ?_) (fun c19 => ?_)
    · refine xs_iconst (v := zb false) dX0_isTight_26 rfl ?_
      exact xs_zret hX rfl dX0_isTight_27 (by simp [mBi_tight, c9, c19]) rfl
    · refine xs_iconst (v := zb true) dX0_isTight_22 rfl ?_
      refine xs_goto (t := 27) dX0_isTight_23 (by decide) ?_
      exact xs_zret hX rfl dX0_isTight_27 (by simp [mBi_tight, c9, c19]) rfl
theorem k_Bi_tight {X : xz_X} {cA : ClassId} {own : String} {ad : Nat → Nat} {cc : ByteArray} {nL : Nat} {ret : Option FieldType} {R : Room} {s : zT} {pc ix : Nat} {L : List (Nat × Value)} {st : List Value} {c : Int32} (d : decode cc pc = .ok (.invokevirtual ix, 3)) (hw : xwV own ix yX0_isTight cX0_isTight 2 (some .boolean) 1) (hR : xroom R_Bi_tight 2 R) (hst : (st.map fun v => v.category).sum ≤ 8) (kk : xs X cA own cc nL ret R (wd ad cA (s)) 0 0 (pc + 3) L (.int (zb (mBi_tight s c)) :: st)) : xs X cA own cc nL ret R (wd ad cA s) 0 0 pc L (.int c :: .ref (ad 1) :: st) :=
  xs_call 1 (c_Bi_tight ad cA s c) rfl rfl d hw hR rfl rfl rfl hst ⟨Nat.zero_le _, Nat.zero_le _⟩ kk
abbrev R_Bi_next : Room := { frames := 0, cells := 0, slots := 0, locals := 0 }
set_option maxHeartbeats 4000000 in
set_option maxRecDepth 100000 in
theorem c_Bi_next (ad : Nat → Nat) (cA : ClassId) (s : zT) (a : zS) : xct cA yX0_nextInPlace cX0_nextInPlace 2 (some .int) R_Bi_next [.ref (ad 1), .int (zs a)] (wd ad cA s) (some (.int (zs (s.1 2 a)))) (wd ad cA (s)) := by
  refine xct_of (own := RX0) (by decide) rfl (Nat.le_of_ble_eq_true rfl) (fun X hX => ?_)
  show xs X cA RX0 cX0_nextInPlace 2 (some .int) R_Bi_next (wd ad cA s) 0 0 0 [(0, .ref (ad 1)), (1, .int (zs a))] []
  refine xs_aload_n 0 dX0_nextInPlace_0 rfl ?_
  refine g_Bi_next dX0_nextInPlace_1 ?_
  refine xs_iload_n 1 dX0_nextInPlace_4 rfl ?_
  refine al_S2 dX0_nextInPlace_5 ?_
  exact xs_iret hX rfl dX0_nextInPlace_6 rfl rfl
theorem k_Bi_next {X : xz_X} {cA : ClassId} {own : String} {ad : Nat → Nat} {cc : ByteArray} {nL : Nat} {ret : Option FieldType} {R : Room} {s : zT} {pc ix : Nat} {L : List (Nat × Value)} {st : List Value} {a : zS} (d : decode cc pc = .ok (.invokevirtual ix, 3)) (hw : xwV own ix yX0_nextInPlace cX0_nextInPlace 2 (some .int) 1) (hR : xroom R_Bi_next 2 R) (hst : (st.map fun v => v.category).sum ≤ 8) (kk : xs X cA own cc nL ret R (wd ad cA (s)) 0 0 (pc + 3) L (.int (zs (s.1 2 a)) :: st)) : xs X cA own cc nL ret R (wd ad cA s) 0 0 pc L (.int (zs a) :: .ref (ad 1) :: st) :=
  xs_call 1 (c_Bi_next ad cA s a) rfl rfl d hw hR rfl rfl rfl hst ⟨Nat.zero_le _, Nat.zero_le _⟩ kk
abbrev R_Bi_append : Room := { frames := 0, cells := 0, slots := 0, locals := 0 }
set_option maxHeartbeats 4000000 in
set_option maxRecDepth 100000 in
theorem c_Bi_append (ad : Nat → Nat) (cA : ClassId) (s : zT) (p : zP) (a : zS) : xct cA yX0_append cX0_append 5 none R_Bi_append [.ref (ad 1), .int (zp p), .int (zs a)] (wd ad cA s) none (wd ad cA (mBi_append s p a)) := by
  refine xct_of (own := RX0) (by decide) rfl (Nat.le_of_ble_eq_true rfl) (fun X hX => ?_)
  show xs X cA RX0 cX0_append 5 none R_Bi_append (wd ad cA s) 0 0 0 [(0, .ref (ad 1)), (1, .int (zp p)), (2, .int (zs a))] []
  refine xs_aload_n 0 dX0_append_0 rfl ?_
  refine g_Bi_heads dX0_append_1 ?_
  refine xs_iload_n 1 dX0_append_4 rfl ?_
  refine al_S4 dX0_append_5 ?_
  refine xs_istore_n (L' := [(3, _), (0, _), (1, _), (2, _)]) dX0_append_6 (by decide) rfl ?_
  refine xs_aload_n 1 dX0_append_7 rfl ?_
  refine g_Bi_next dX0_append_8 ?_
  refine xs_iload_n 3 dX0_append_11 rfl ?_
  refine xs_iconst (v := zs 0) dX0_append_12 rfl ?_
  refine as_S2 dX0_append_13 ?_
  refine xs_iload_n 0 dX0_append_14 rfl ?_
  refine xs_sif_ne (t := 35) dX0_append_15 (by decide) (fun c15 => ?_) (fun c15 => ?_)
  · refine xs_aload_n 1 dX0_append_35 rfl ?_
    refine g_Bi_previous dX0_append_36 ?_
    refine xs_iload_n 0 dX0_append_39 rfl ?_
    refine al_S3 dX0_append_40 ?_
    refine xs_istore (L' := [(4, _), (3, _), (0, _), (1, _), (2, _)]) dX0_append_41 (by decide) rfl ?_
    refine xs_aload_n 2 dX0_append_43 rfl ?_
    refine g_Bi_next dX0_append_44 ?_
    refine xs_iload 0 dX0_append_47 rfl ?_
    refine xs_iload_n 4 dX0_append_49 rfl ?_
    refine as_S2 dX0_append_50 ?_
    refine xs_aload_n 2 dX0_append_51 rfl ?_
    refine g_Bi_previous dX0_append_52 ?_
    refine xs_iload_n 4 dX0_append_55 rfl ?_
    refine xs_iload 0 dX0_append_56 rfl ?_
    refine as_S3 dX0_append_58 ?_
    refine xs_aload_n 2 dX0_append_59 rfl ?_
    refine g_Bi_previous dX0_append_60 ?_
    refine xs_iload_n 1 dX0_append_63 rfl ?_
    refine xs_iload_n 4 dX0_append_64 rfl ?_
    refine as_S3 dX0_append_65 ?_
    exact xs_vret hX rfl dX0_append_66 (by simp only [mBi_append, if_neg c15])
  · refine xs_aload_n 1 dX0_append_18 rfl ?_
    refine g_Bi_heads dX0_append_19 ?_
    refine xs_iload_n 2 dX0_append_22 rfl ?_
    refine xs_iload_n 3 dX0_append_23 rfl ?_
    refine as_S4 dX0_append_24 ?_
    refine xs_aload_n 1 dX0_append_25 rfl ?_
    refine g_Bi_previous dX0_append_26 ?_
    refine xs_iload_n 3 dX0_append_29 rfl ?_
    refine xs_iload_n 3 dX0_append_30 rfl ?_
    refine as_S3 dX0_append_31 ?_
    refine xs_goto (t := 66) dX0_append_32 (by decide) ?_
    exact xs_vret hX rfl dX0_append_66 (by simp only [mBi_append, if_pos c15])
theorem k_Bi_append {X : xz_X} {cA : ClassId} {own : String} {ad : Nat → Nat} {cc : ByteArray} {nL : Nat} {ret : Option FieldType} {R : Room} {s : zT} {pc ix : Nat} {L : List (Nat × Value)} {st : List Value} {p : zP} {a : zS} (d : decode cc pc = .ok (.invokevirtual ix, 3)) (hw : xwV own ix yX0_append cX0_append 5 none 2) (hR : xroom R_Bi_append 5 R) (hst : (st.map fun v => v.category).sum ≤ 8) (kk : xs X cA own cc nL ret R (wd ad cA (mBi_append s p a)) 0 0 (pc + 3) L (st)) : xs X cA own cc nL ret R (wd ad cA s) 0 0 pc L (.int (zs a) :: .int (zp p) :: .ref (ad 1) :: st) :=
  xs_call 1 (c_Bi_append ad cA s p a) rfl rfl d hw hR rfl rfl rfl hst ⟨Nat.zero_le _, Nat.zero_le _⟩ kk
abbrev R_Bi_unlink : Room := { frames := 0, cells := 0, slots := 0, locals := 0 }
set_option maxHeartbeats 4000000 in
set_option maxRecDepth 100000 in
theorem c_Bi_unlink (ad : Nat → Nat) (cA : ClassId) (s : zT) (p : zP) (a : zS) : xct cA yX0_unlink cX0_unlink 6 none R_Bi_unlink [.ref (ad 1), .int (zp p), .int (zs a)] (wd ad cA s) none (wd ad cA (mBi_unlink s p a)) := by
  refine xct_of (own := RX0) (by decide) rfl (Nat.le_of_ble_eq_true rfl) (fun X hX => ?_)
  show xs X cA RX0 cX0_unlink 6 none R_Bi_unlink (wd ad cA s) 0 0 0 [(0, .ref (ad 1)), (1, .int (zp p)), (2, .int (zs a))] []
  refine xs_aload_n 0 dX0_unlink_0 rfl ?_
  refine g_Bi_heads dX0_unlink_1 ?_
  refine xs_iload_n 1 dX0_unlink_4 rfl ?_
  refine al_S4 dX0_unlink_5 ?_
  refine xs_istore_n (L' := [(3, _), (0, _), (1, _), (2, _)]) dX0_unlink_6 (by decide) rfl ?_
  refine xs_aload_n 1 dX0_unlink_7 rfl ?_
  refine g_Bi_previous dX0_unlink_8 ?_
  refine xs_iload_n 3 dX0_unlink_11 rfl ?_
  refine al_S3 dX0_unlink_12 ?_
  refine xs_istore (L' := [(4, _), (3, _), (0, _), (1, _), (2, _)]) dX0_unlink_13 (by decide) rfl ?_
  refine xs_aload_n 2 dX0_unlink_15 rfl ?_
  refine g_Bi_next dX0_unlink_16 ?_
  refine xs_iload_n 4 dX0_unlink_19 rfl ?_
  refine al_S2 dX0_unlink_20 ?_
  refine xs_istore (L' := [(5, _), (4, _), (3, _), (0, _), (1, _), (2, _)]) dX0_unlink_21 (by decide) rfl ?_
  refine xs_iload_n 5 dX0_unlink_23 rfl ?_
  refine xs_iload_n 2 dX0_unlink_24 rfl ?_
  refine xs_scmp_ne (t := 39) dX0_unlink_25 (by decide) (fun c25 => ?_) (fun c25 => ?_)
  · refine xs_aload_n 3 dX0_unlink_39 rfl ?_
    refine g_Bi_next dX0_unlink_40 ?_
    refine xs_iload 1 dX0_unlink_43 rfl ?_
    refine xs_iload 0 dX0_unlink_45 rfl ?_
    refine as_S2 dX0_unlink_47 ?_
    refine xs_iload 0 dX0_unlink_48 rfl ?_
    refine xs_sif_eq (t := 65) dX0_unlink_50 (by decide) (fun c50 => ?_) (fun c50 => ?_)
    · refine xs_iload_n 5 dX0_unlink_65 rfl ?_
      refine xs_iload_n 2 dX0_unlink_66 rfl ?_
      refine xs_scmp_eq (t := 78) dX0_unlink_67 (by decide) (fun c67 => ?_) (fun c67 => ?_)
      · exact xs_vret hX rfl dX0_unlink_78 (by first | exact absurd c25 c67 | exact absurd c67 c25 | simp only [mBi_unlink, if_neg c25, if_pos c50, if_pos c67])
      · refine xs_aload_n 3 dX0_unlink_70 rfl ?_
        refine g_Bi_previous dX0_unlink_71 ?_
        refine xs_iload_n 2 dX0_unlink_74 rfl ?_
        refine xs_iload 1 dX0_unlink_75 rfl ?_
        refine as_S3 dX0_unlink_77 ?_
        exact xs_vret hX rfl dX0_unlink_78 (by first | exact absurd c25 c67 | exact absurd c67 c25 | simp only [mBi_unlink, if_neg c25, if_pos c50, if_neg c67])
    · refine xs_aload_n 3 dX0_unlink_53 rfl ?_
      refine g_Bi_previous dX0_unlink_54 ?_
      refine xs_iload 0 dX0_unlink_57 rfl ?_
      refine xs_iload 1 dX0_unlink_59 rfl ?_
      refine as_S3 dX0_unlink_61 ?_
      refine xs_goto (t := 78) dX0_unlink_62 (by decide) ?_
      exact xs_vret hX rfl dX0_unlink_78 (by first | exact absurd c25 c67 | exact absurd c67 c25 | simp only [mBi_unlink, if_neg c25, if_neg c50])
  · refine xs_aload_n 3 dX0_unlink_28 rfl ?_
    refine g_Bi_heads dX0_unlink_29 ?_
    refine xs_iload_n 4 dX0_unlink_32 rfl ?_
    refine xs_iload 0 dX0_unlink_33 rfl ?_
    refine as_S4 dX0_unlink_35 ?_
    refine xs_goto (t := 48) dX0_unlink_36 (by decide) ?_
    refine xs_iload 0 dX0_unlink_48 rfl ?_
    refine xs_sif_eq (t := 65) dX0_unlink_50 (by decide) (fun c50 => ?_) (fun c50 => ?_)
    · refine xs_iload_n 5 dX0_unlink_65 rfl ?_
      refine xs_iload_n 2 dX0_unlink_66 rfl ?_
      refine xs_scmp_eq (t := 78) dX0_unlink_67 (by decide) (fun c67 => ?_) (fun c67 => ?_)
      · exact xs_vret hX rfl dX0_unlink_78 (by first | exact absurd c25 c67 | exact absurd c67 c25 | simp only [mBi_unlink, if_pos c25, if_pos c50, if_pos c67])
      · refine xs_aload_n 3 dX0_unlink_70 rfl ?_
        refine g_Bi_previous dX0_unlink_71 ?_
        refine xs_iload_n 2 dX0_unlink_74 rfl ?_
        refine xs_iload 1 dX0_unlink_75 rfl ?_
        refine as_S3 dX0_unlink_77 ?_
        exact xs_vret hX rfl dX0_unlink_78 (by first | exact absurd c25 c67 | exact absurd c67 c25 | simp only [mBi_unlink, if_pos c25, if_pos c50, if_neg c67])
    · refine xs_aload_n 3 dX0_unlink_53 rfl ?_
      refine g_Bi_previous dX0_unlink_54 ?_
      refine xs_iload 0 dX0_unlink_57 rfl ?_
      refine xs_iload 1 dX0_unlink_59 rfl ?_
      refine as_S3 dX0_unlink_61 ?_
      refine xs_goto (t := 78) dX0_unlink_62 (by decide) ?_
      exact xs_vret hX rfl dX0_unlink_78 (by first | exact absurd c25 c67 | exact absurd c67 c25 | simp only [mBi_unlink, if_pos c25, if_neg c50])
theorem k_Bi_unlink {X : xz_X} {cA : ClassId} {own : String} {ad : Nat → Nat} {cc : ByteArray} {nL : Nat} {ret : Option FieldType} {R : Room} {s : zT} {pc ix : Nat} {L : List (Nat × Value)} {st : List Value} {p : zP} {a : zS} (d : decode cc pc = .ok (.invokevirtual ix, 3)) (hw : xwV own ix yX0_unlink cX0_unlink 6 none 2) (hR : xroom R_Bi_unlink 6 R) (hst : (st.map fun v => v.category).sum ≤ 8) (kk : xs X cA own cc nL ret R (wd ad cA (mBi_unlink s p a)) 0 0 (pc + 3) L (st)) : xs X cA own cc nL ret R (wd ad cA s) 0 0 pc L (.int (zs a) :: .int (zp p) :: .ref (ad 1) :: st) :=
  xs_call 1 (c_Bi_unlink ad cA s p a) rfl rfl d hw hR rfl rfl rfl hst ⟨Nat.zero_le _, Nat.zero_le _⟩ kk
abbrev R_Bi_long : Room := { frames := 0, cells := 0, slots := 0, locals := 0 }
set_option maxHeartbeats 4000000 in
set_option maxRecDepth 100000 in
theorem t_Bi_long {X : xz_X} {ad : Nat → Nat} {cA : ClassId} {s : zT} : ∀ (n i : Nat) (a : zS), i + n = 8 → xfin X cA 0 0 (some (.int (zb (!decide (mBi_longL s n a = 0))))) (wd ad cA (s)) → xs X cA RX0 cX0_isLong 4 (some .boolean) R_Bi_long (wd ad cA s) 0 0 9 [(3, .int (nI i)), (2, .int (zs a)), (0, .ref (ad 1))] [] := by
  intro n
  induction n with
  | zero =>
    intro i a hi hX
    refine xs_iload_n 0 dX0_isLong_9 rfl ?_
    refine xs_bipush (v := 8) dX0_isLong_10 (by decide) ?_
    refine xs_icmp_ge (t := 32) dX0_isLong_12 (by decide) (fun c12 => ?_) (fun c12 => ?_)
    · refine xs_iload_n 1 dX0_isLong_32 rfl ?_
      refine xs_sif_eq (t := 40) dX0_isLong_33 (by decide) (fun c33 => ?_) (fun c33 => ?_)
      · refine xs_iconst (v := zb false) dX0_isLong_40 rfl ?_
        exact xs_zret hX rfl dX0_isLong_41 (by simp [mBi_longL, c33]) rfl
      · refine xs_iconst (v := zb true) dX0_isLong_36 rfl ?_
        refine xs_goto (t := 41) dX0_isLong_37 (by decide) ?_
        exact xs_zret hX rfl dX0_isLong_41 (by simp [mBi_longL, c33]) rfl
    · exact absurd (show (8 : Int32) ≤ nI i from kn_le (m := 8) (by omega) (by omega)) c12
  | succ n ih =>
    intro i a hi hX
    refine xs_iload_n 0 dX0_isLong_9 rfl ?_
    refine xs_bipush (v := 8) dX0_isLong_10 (by decide) ?_
    refine xs_icmp_ge (t := 32) dX0_isLong_12 (by decide) (fun c12 => ?_) (fun c12 => ?_)
    · exact absurd c12 (show ¬ (8 : Int32) ≤ nI i from kn_nle (m := 8) (by omega) (by decide))
    · refine xs_iload_n 1 dX0_isLong_15 rfl ?_
      refine xs_sif_eq (t := 32) dX0_isLong_16 (by decide) (fun c16 => ?_) (fun c16 => ?_)
      · refine xs_iload_n 1 dX0_isLong_32 rfl ?_
        refine xs_sif_eq (t := 40) dX0_isLong_33 (by decide) (fun c33 => ?_) (fun c33 => ?_)
        · refine xs_iconst (v := zb false) dX0_isLong_40 rfl ?_
          exact xs_zret hX rfl dX0_isLong_41 (by first | exact absurd c16 c33 | simp [mBi_longL, c16]) rfl
        · refine xs_iconst (v := zb true) dX0_isLong_36 rfl ?_
          refine xs_goto (t := 41) dX0_isLong_37 (by decide) ?_
          exact xs_zret hX rfl dX0_isLong_41 (by first | exact absurd c16 c33 | simp [mBi_longL, c16]) rfl
      · refine xs_aload_n 2 dX0_isLong_19 rfl ?_
        refine g_Bi_next dX0_isLong_20 ?_
        refine xs_iload_n 1 dX0_isLong_23 rfl ?_
        refine al_S2 dX0_isLong_24 ?_
        refine xs_istore_n (L' := [(2, _), (3, _), (0, _)]) dX0_isLong_25 (by decide) rfl ?_
        refine xs_iinc_n (L' := [(3, _), (2, _), (0, _)]) 1 dX0_isLong_26 rfl (by decide) rfl ?_
        refine xs_goto (t := 9) dX0_isLong_29 (by decide) ?_
        refine xs_sub (L' := [(3, _), (2, _), (0, _)]) [0, 1, 2] rfl ?_
        exact ih _ _ (by omega) (by simp only [mBi_longL, if_neg c12, if_neg c16] at hX; exact hX)
set_option maxHeartbeats 4000000 in
set_option maxRecDepth 100000 in
theorem c_Bi_long (ad : Nat → Nat) (cA : ClassId) (s : zT) (p : zP) : xct cA yX0_isLong cX0_isLong 4 (some .boolean) R_Bi_long [.ref (ad 1), .int (zp p)] (wd ad cA s) (some (.int (zb (mBi_long s p)))) (wd ad cA (s)) := by
  refine xct_of (own := RX0) (by decide) rfl (Nat.le_of_ble_eq_true rfl) (fun X hX => ?_)
  show xs X cA RX0 cX0_isLong 4 (some .boolean) R_Bi_long (wd ad cA s) 0 0 0 [(0, .ref (ad 1)), (1, .int (zp p))] []
  refine xs_aload_n 0 dX0_isLong_0 rfl ?_
  refine g_Bi_heads dX0_isLong_1 ?_
  refine xs_iload_n 1 dX0_isLong_4 rfl ?_
  refine al_S4 dX0_isLong_5 ?_
  refine xs_istore_n (L' := [(2, _), (0, _), (1, _)]) dX0_isLong_6 (by decide) rfl ?_
  refine xs_iconst (v := nI 0) dX0_isLong_7 rfl ?_
  refine xs_istore_n (L' := [(3, _), (2, _), (0, _), (1, _)]) dX0_isLong_8 (by decide) rfl ?_
  refine xs_sub (L' := [(3, _), (2, _), (0, _)]) [0, 1, 2] rfl ?_
  exact t_Bi_long 8 0 _ rfl hX
theorem k_Bi_long {X : xz_X} {cA : ClassId} {own : String} {ad : Nat → Nat} {cc : ByteArray} {nL : Nat} {ret : Option FieldType} {R : Room} {s : zT} {pc ix : Nat} {L : List (Nat × Value)} {st : List Value} {p : zP} (d : decode cc pc = .ok (.invokevirtual ix, 3)) (hw : xwV own ix yX0_isLong cX0_isLong 4 (some .boolean) 1) (hR : xroom R_Bi_long 4 R) (hst : (st.map fun v => v.category).sum ≤ 8) (kk : xs X cA own cc nL ret R (wd ad cA (s)) 0 0 (pc + 3) L (.int (zb (mBi_long s p)) :: st)) : xs X cA own cc nL ret R (wd ad cA s) 0 0 pc L (.int (zp p) :: .ref (ad 1) :: st) :=
  xs_call 1 (c_Bi_long ad cA s p) rfl rfl d hw hR rfl rfl rfl hst ⟨Nat.zero_le _, Nat.zero_le _⟩ kk
abbrev R_Bi_len : Room := { frames := 0, cells := 0, slots := 0, locals := 0 }
set_option maxHeartbeats 4000000 in
set_option maxRecDepth 100000 in
theorem t_Bi_len {X : xz_X} {ad : Nat → Nat} {cA : ClassId} {s : zT} : ∀ (n i : Nat) (a : zS), i + n = 2002 → xfin X cA 0 0 (some (.int (mBi_lenL s n i a))) (wd ad cA (s)) → xs X cA RX0 cX0_lengthOf 4 (some .int) R_Bi_len (wd ad cA s) 0 0 9 [(2, .int (nI i)), (3, .int (zs a)), (0, .ref (ad 1))] [] := by
  intro n
  induction n with
  | zero =>
    intro i a hi hX
    refine xs_iload_n 1 dX0_lengthOf_9 rfl ?_
    refine xs_sif_eq (t := 33) dX0_lengthOf_10 (by decide) (fun c10 => ?_) (fun c10 => ?_)
    · refine xs_iload_n 0 dX0_lengthOf_33 rfl ?_
      exact xs_iret hX rfl dX0_lengthOf_34 rfl rfl
    · refine xs_iload_n 0 dX0_lengthOf_13 rfl ?_
      refine xs_sipush (v := 2002) dX0_lengthOf_14 (by decide) ?_
      refine xs_icmp_ge (t := 33) dX0_lengthOf_17 (by decide) (fun c17 => ?_) (fun c17 => ?_)
      · refine xs_iload_n 0 dX0_lengthOf_33 rfl ?_
        exact xs_iret hX rfl dX0_lengthOf_34 rfl rfl
      · exact absurd (show (2002 : Int32) ≤ nI i from kn_le (m := 2002) (by omega) (by omega)) c17
  | succ n ih =>
    intro i a hi hX
    refine xs_iload_n 1 dX0_lengthOf_9 rfl ?_
    refine xs_sif_eq (t := 33) dX0_lengthOf_10 (by decide) (fun c10 => ?_) (fun c10 => ?_)
    · refine xs_iload_n 0 dX0_lengthOf_33 rfl ?_
      exact xs_iret hX rfl dX0_lengthOf_34 (by simp only [mBi_lenL, if_pos c10]) rfl
    · refine xs_iload_n 0 dX0_lengthOf_13 rfl ?_
      refine xs_sipush (v := 2002) dX0_lengthOf_14 (by decide) ?_
      refine xs_icmp_ge (t := 33) dX0_lengthOf_17 (by decide) (fun c17 => ?_) (fun c17 => ?_)
      · exact absurd c17 (show ¬ (2002 : Int32) ≤ nI i from kn_nle (m := 2002) (by omega) (by decide))
      · refine xs_aload_n 2 dX0_lengthOf_20 rfl ?_
        refine g_Bi_next dX0_lengthOf_21 ?_
        refine xs_iload_n 1 dX0_lengthOf_24 rfl ?_
        refine al_S2 dX0_lengthOf_25 ?_
        refine xs_istore_n (L' := [(3, _), (2, _), (0, _)]) dX0_lengthOf_26 (by decide) rfl ?_
        refine xs_iinc_n (L' := [(2, _), (3, _), (0, _)]) 1 dX0_lengthOf_27 rfl (by decide) rfl ?_
        refine xs_goto (t := 9) dX0_lengthOf_30 (by decide) ?_
        refine xs_sub (L' := [(2, _), (3, _), (0, _)]) [0, 1, 2] rfl ?_
        exact ih _ _ (by omega) (by simp only [mBi_lenL, if_neg c10, if_neg c17] at hX; exact hX)
set_option maxHeartbeats 4000000 in
set_option maxRecDepth 100000 in
theorem c_Bi_len (ad : Nat → Nat) (cA : ClassId) (s : zT) (p : zP) : xct cA yX0_lengthOf cX0_lengthOf 4 (some .int) R_Bi_len [.ref (ad 1), .int (zp p)] (wd ad cA s) (some (.int (mBi_len s p))) (wd ad cA (s)) := by
  refine xct_of (own := RX0) (by decide) rfl (Nat.le_of_ble_eq_true rfl) (fun X hX => ?_)
  show xs X cA RX0 cX0_lengthOf 4 (some .int) R_Bi_len (wd ad cA s) 0 0 0 [(0, .ref (ad 1)), (1, .int (zp p))] []
  refine xs_iconst (v := nI 0) dX0_lengthOf_0 rfl ?_
  refine xs_istore_n (L' := [(2, _), (0, _), (1, _)]) dX0_lengthOf_1 (by decide) rfl ?_
  refine xs_aload_n 1 dX0_lengthOf_2 rfl ?_
  refine g_Bi_heads dX0_lengthOf_3 ?_
  refine xs_iload_n 2 dX0_lengthOf_6 rfl ?_
  refine al_S4 dX0_lengthOf_7 ?_
  refine xs_istore_n (L' := [(3, _), (2, _), (0, _), (1, _)]) dX0_lengthOf_8 (by decide) rfl ?_
  refine xs_sub (L' := [(2, _), (3, _), (0, _)]) [1, 0, 2] rfl ?_
  exact t_Bi_len 2002 0 _ rfl hX
theorem k_Bi_len {X : xz_X} {cA : ClassId} {own : String} {ad : Nat → Nat} {cc : ByteArray} {nL : Nat} {ret : Option FieldType} {R : Room} {s : zT} {pc ix : Nat} {L : List (Nat × Value)} {st : List Value} {p : zP} (d : decode cc pc = .ok (.invokevirtual ix, 3)) (hw : xwV own ix yX0_lengthOf cX0_lengthOf 4 (some .int) 1) (hR : xroom R_Bi_len 4 R) (hst : (st.map fun v => v.category).sum ≤ 8) (kk : xs X cA own cc nL ret R (wd ad cA (s)) 0 0 (pc + 3) L (.int (mBi_len s p) :: st)) : xs X cA own cc nL ret R (wd ad cA s) 0 0 pc L (.int (zp p) :: .ref (ad 1) :: st) :=
  xs_call 1 (c_Bi_len ad cA s p) rfl rfl d hw hR rfl rfl rfl hst ⟨Nat.zero_le _, Nat.zero_le _⟩ kk
abbrev R_Bi_place : Room := { frames := 1, cells := 0, slots := 0, locals := 21 }
set_option maxRecDepth 100000 in
theorem kw_Bi_Bi_code : xwV RX0 102 yX0_codeOf cX0_codeOf 2 (some .int) 1 := ⟨⟨xt_of (List.mem_of_getElem? (i := 167) rfl) rfl, xt_of (by decide +kernel) rfl, xt_of (by decide +kernel) rfl, by decide +kernel⟩, xt_of (by decide +kernel) rfl, xt_of (by decide +kernel) rfl⟩
set_option maxHeartbeats 4000000 in
set_option maxRecDepth 100000 in
theorem c_Bi_place (ad : Nat → Nat) (cA : ClassId) (s : zT) (key : Int32) (hr : rok s) : xct cA yX0_placeOf cX0_placeOf 3 (some .int) R_Bi_place [.ref (ad 1), .int key] (wd ad cA s) (some (.int (zp (mBi_place s key)))) (wd ad cA (s)) := by
  refine xct_of (own := RX0) (by decide) rfl (Nat.le_of_ble_eq_true rfl) (fun X hX => ?_)
  show xs X cA RX0 cX0_placeOf 3 (some .int) R_Bi_place (wd ad cA s) 0 0 0 [(0, .ref (ad 1)), (1, .int key)] []
  refine xs_aload_n 0 dX0_placeOf_0 rfl ?_
  refine xs_iload_n 1 dX0_placeOf_1 rfl ?_
  refine k_Bi_code dX0_placeOf_2 kw_Bi_Bi_code (by decide) (Nat.le_of_ble_eq_true rfl) ?_
  refine xs_istore_n (L' := [(2, _), (0, _), (1, _)]) dX0_placeOf_5 (by decide) rfl ?_
  refine xs_iload_n 0 dX0_placeOf_6 rfl ?_
  refine xs_iload_n 0 dX0_placeOf_7 rfl ?_
  refine xs_bipush (v := 16) dX0_placeOf_8 (by decide) ?_
  refine xs_iushr dX0_placeOf_10 ?_
  refine xs_ixor dX0_placeOf_11 ?_
  refine xs_aload_n 1 dX0_placeOf_12 rfl ?_
  refine g_Bi_room dX0_placeOf_13 ?_
  refine xs_iconst (v := 1) dX0_placeOf_16 (by decide) ?_
  refine xs_isub dX0_placeOf_17 ?_
  refine xs_iand dX0_placeOf_18 ?_
  exact xs_iret hX rfl dX0_placeOf_19 (place_eq hr) rfl
theorem k_Bi_place {X : xz_X} {cA : ClassId} {own : String} {ad : Nat → Nat} {cc : ByteArray} {nL : Nat} {ret : Option FieldType} {R : Room} {s : zT} {pc ix : Nat} {L : List (Nat × Value)} {st : List Value} {key : Int32} (d : decode cc pc = .ok (.invokevirtual ix, 3)) (hw : xwV own ix yX0_placeOf cX0_placeOf 3 (some .int) 1) (hR : xroom R_Bi_place 3 R) (hst : (st.map fun v => v.category).sum ≤ 8) (hr : rok s) (kk : xs X cA own cc nL ret R (wd ad cA (s)) 0 0 (pc + 3) L (.int (zp (mBi_place s key)) :: st)) : xs X cA own cc nL ret R (wd ad cA s) 0 0 pc L (.int key :: .ref (ad 1) :: st) :=
  xs_call 1 (c_Bi_place ad cA s key hr) rfl rfl d hw hR rfl rfl rfl hst ⟨Nat.zero_le _, Nat.zero_le _⟩ kk
abbrev R_Bi_find : Room := { frames := 2, cells := 0, slots := 0, locals := 43 }
set_option maxRecDepth 100000 in
theorem kw_Bi_Bi_place : xwV RX0 55 yX0_placeOf cX0_placeOf 3 (some .int) 1 := ⟨⟨xt_of (List.mem_of_getElem? (i := 163) rfl) rfl, xt_of (by decide +kernel) rfl, xt_of (by decide +kernel) rfl, by decide +kernel⟩, xt_of (by decide +kernel) rfl, xt_of (by decide +kernel) rfl⟩
set_option maxRecDepth 100000 in
theorem kw_Bi_Tr_find : xwV RX0 58 yX2_slotOf cX2_slotOf 5 (some .int) 2 := ⟨⟨xt_of (List.mem_of_getElem? (i := 172) rfl) rfl, xt_of (by decide +kernel) rfl, xt_of (by decide +kernel) rfl, by decide +kernel⟩, xt_of (by decide +kernel) rfl, xt_of (by decide +kernel) rfl⟩
set_option maxHeartbeats 4000000 in
set_option maxRecDepth 100000 in
theorem t_Bi_find {X : xz_X} {ad : Nat → Nat} {cA : ClassId} {s : zT} {key : Int32} : ∀ (n i : Nat) (a : zS), i + n = 8 → xfin X cA 0 0 (some (.int (zs (mBi_findL s key n a)))) (wd ad cA (s)) → xs X cA RX0 cX0_slotOf 5 (some .int) R_Bi_find (wd ad cA s) 0 0 40 [(4, .int (nI i)), (3, .int (zs a)), (1, .int key), (0, .ref (ad 1))] [] := by
  intro n
  induction n with
  | zero =>
    intro i a hi hX
    refine xs_iload 0 dX0_slotOf_40 rfl ?_
    refine xs_bipush (v := 8) dX0_slotOf_42 (by decide) ?_
    refine xs_icmp_ge (t := 78) dX0_slotOf_44 (by decide) (fun c44 => ?_) (fun c44 => ?_)
    · refine xs_iconst (v := zs 0) dX0_slotOf_78 rfl ?_
      exact xs_iret hX rfl dX0_slotOf_79 rfl rfl
    · exact absurd (show (8 : Int32) ≤ nI i from kn_le (m := 8) (by omega) (by omega)) c44
  | succ n ih =>
    intro i a hi hX
    refine xs_iload 0 dX0_slotOf_40 rfl ?_
    refine xs_bipush (v := 8) dX0_slotOf_42 (by decide) ?_
    refine xs_icmp_ge (t := 78) dX0_slotOf_44 (by decide) (fun c44 => ?_) (fun c44 => ?_)
    · exact absurd c44 (show ¬ (8 : Int32) ≤ nI i from kn_nle (m := 8) (by omega) (by decide))
    · refine xs_iload_n 1 dX0_slotOf_47 rfl ?_
      refine xs_sif_eq (t := 78) dX0_slotOf_48 (by decide) (fun c48 => ?_) (fun c48 => ?_)
      · refine xs_iconst (v := zs 0) dX0_slotOf_78 rfl ?_
        exact xs_iret hX rfl dX0_slotOf_79 (by simp only [mBi_findL, if_neg c44, if_pos c48]) rfl
      · refine xs_aload_n 3 dX0_slotOf_51 rfl ?_
        refine g_Bi_trees dX0_slotOf_52 ?_
        refine xs_iload_n 1 dX0_slotOf_55 rfl ?_
        refine k_Tr_keyOf dX0_slotOf_56 kw_Bi_Tr_keyOf (by decide) (Nat.le_of_ble_eq_true rfl) ?_
        refine xs_iload_n 2 dX0_slotOf_59 rfl ?_
        refine xs_icmp_ne (t := 65) dX0_slotOf_60 (by decide) (fun c60 => ?_) (fun c60 => ?_)
        · refine xs_aload_n 3 dX0_slotOf_65 rfl ?_
          refine g_Bi_next dX0_slotOf_66 ?_
          refine xs_iload_n 1 dX0_slotOf_69 rfl ?_
          refine al_S2 dX0_slotOf_70 ?_
          refine xs_istore_n (L' := [(3, _), (4, _), (1, _), (0, _)]) dX0_slotOf_71 (by decide) rfl ?_
          refine xs_iinc_n (L' := [(4, _), (3, _), (1, _), (0, _)]) 1 dX0_slotOf_72 rfl (by decide) rfl ?_
          refine xs_goto (t := 40) dX0_slotOf_75 (by decide) ?_
          refine xs_sub (L' := [(4, _), (3, _), (1, _), (0, _)]) [0, 1, 2, 3] rfl ?_
          exact ih _ _ (by omega) (by simp only [mBi_findL, if_neg c44, if_neg c48, if_neg c60] at hX; exact hX)
        · refine xs_iload_n 1 dX0_slotOf_63 rfl ?_
          exact xs_iret hX rfl dX0_slotOf_64 (by simp only [mBi_findL, if_neg c44, if_neg c48, if_pos c60]) rfl
set_option maxHeartbeats 4000000 in
set_option maxRecDepth 100000 in
theorem c_Bi_find (ad : Nat → Nat) (cA : ClassId) (s : zT) (key : Int32) (hr : rok s) : xct cA yX0_slotOf cX0_slotOf 5 (some .int) R_Bi_find [.ref (ad 1), .int key] (wd ad cA s) (some (.int (zs (mBi_find s key)))) (wd ad cA (s)) := by
  refine xct_of (own := RX0) (by decide) rfl (Nat.le_of_ble_eq_true rfl) (fun X hX => ?_)
  show xs X cA RX0 cX0_slotOf 5 (some .int) R_Bi_find (wd ad cA s) 0 0 0 [(0, .ref (ad 1)), (1, .int key)] []
  refine xs_aload_n 0 dX0_slotOf_0 rfl ?_
  refine xs_iload_n 1 dX0_slotOf_1 rfl ?_
  refine k_Bi_place dX0_slotOf_2 kw_Bi_Bi_place (by decide) (Nat.le_of_ble_eq_true rfl) hr ?_
  refine xs_istore_n (L' := [(2, _), (0, _), (1, _)]) dX0_slotOf_5 (by decide) rfl ?_
  refine xs_aload_n 1 dX0_slotOf_6 rfl ?_
  refine g_Bi_roots dX0_slotOf_7 ?_
  refine xs_iload_n 0 dX0_slotOf_10 rfl ?_
  refine al_S5 dX0_slotOf_11 ?_
  refine xs_sif_eq (t := 30) dX0_slotOf_12 (by decide) (fun c12 => ?_) (fun c12 => ?_)
  · refine xs_aload_n 1 dX0_slotOf_30 rfl ?_
    refine g_Bi_heads dX0_slotOf_31 ?_
    refine xs_iload_n 0 dX0_slotOf_34 rfl ?_
    refine al_S4 dX0_slotOf_35 ?_
    refine xs_istore_n (L' := [(3, _), (2, _), (0, _), (1, _)]) dX0_slotOf_36 (by decide) rfl ?_
    refine xs_iconst (v := nI 0) dX0_slotOf_37 rfl ?_
    refine xs_istore (L' := [(4, _), (3, _), (2, _), (0, _), (1, _)]) dX0_slotOf_38 (by decide) rfl ?_
    refine xs_sub (L' := [(4, _), (3, _), (1, _), (0, _)]) [0, 1, 4, 3] rfl ?_
    exact t_Bi_find 8 0 _ rfl (by simp only [mBi_find, if_pos c12] at hX; exact hX)
  · refine xs_aload_n 1 dX0_slotOf_15 rfl ?_
    refine g_Bi_trees dX0_slotOf_16 ?_
    refine xs_aload_n 1 dX0_slotOf_19 rfl ?_
    refine g_Bi_roots dX0_slotOf_20 ?_
    refine xs_iload_n 0 dX0_slotOf_23 rfl ?_
    refine al_S5 dX0_slotOf_24 ?_
    refine xs_iload_n 2 dX0_slotOf_25 rfl ?_
    refine k_Tr_find dX0_slotOf_26 kw_Bi_Tr_find (by decide) (Nat.le_of_ble_eq_true rfl) ?_
    exact xs_iret hX rfl dX0_slotOf_29 (by simp only [mBi_find, if_neg c12]) rfl
theorem k_Bi_find {X : xz_X} {cA : ClassId} {own : String} {ad : Nat → Nat} {cc : ByteArray} {nL : Nat} {ret : Option FieldType} {R : Room} {s : zT} {pc ix : Nat} {L : List (Nat × Value)} {st : List Value} {key : Int32} (d : decode cc pc = .ok (.invokevirtual ix, 3)) (hw : xwV own ix yX0_slotOf cX0_slotOf 5 (some .int) 1) (hR : xroom R_Bi_find 5 R) (hst : (st.map fun v => v.category).sum ≤ 8) (hr : rok s) (kk : xs X cA own cc nL ret R (wd ad cA (s)) 0 0 (pc + 3) L (.int (zs (mBi_find s key)) :: st)) : xs X cA own cc nL ret R (wd ad cA s) 0 0 pc L (.int key :: .ref (ad 1) :: st) :=
  xs_call 1 (c_Bi_find ad cA s key hr) rfl rfl d hw hR rfl rfl rfl hst ⟨Nat.zero_le _, Nat.zero_le _⟩ kk
abbrev R_Bi_from : Room := { frames := 0, cells := 0, slots := 0, locals := 0 }
set_option maxHeartbeats 4000000 in
set_option maxRecDepth 100000 in
theorem t_Bi_from {X : xz_X} {ad : Nat → Nat} {cA : ClassId} {s : zT} (hr : rok s) : ∀ (n p : Nat), n = (s.2 4 3).toNatClampNeg - p → p < 2 ^ 31 → xfin X cA 0 0 (some (.int (zs (mBi_fromL s n p)))) (wd ad cA (s)) → xs X cA RX0 cX0_firstFrom 3 (some .int) R_Bi_from (wd ad cA s) 0 0 2 [(2, .int (nI p)), (0, .ref (ad 1))] [] := by
  intro n
  induction n with
  | zero =>
    intro p hn hp hX
    refine xs_iload_n 0 dX0_firstFrom_2 rfl ?_
    refine xs_aload_n 1 dX0_firstFrom_3 rfl ?_
    refine g_Bi_room dX0_firstFrom_4 ?_
    refine xs_icmp_ge (t := 32) dX0_firstFrom_7 (by decide) (fun c7 => ?_) (fun c7 => ?_)
    · refine xs_iconst (v := zs 0) dX0_firstFrom_32 rfl ?_
      exact xs_iret hX rfl dX0_firstFrom_33 rfl rfl
    · exact absurd (cnt_le (by omega) hp) c7
  | succ n ih =>
    intro p hn hp hX
    have h4 := rok_le hr
    refine xs_iload_n 0 dX0_firstFrom_2 rfl ?_
    refine xs_aload_n 1 dX0_firstFrom_3 rfl ?_
    refine g_Bi_room dX0_firstFrom_4 ?_
    refine xs_icmp_ge (t := 32) dX0_firstFrom_7 (by decide) (fun c7 => ?_) (fun c7 => ?_)
    · exact absurd c7 (cnt_nle (by omega))
    · refine xs_aload_n 1 dX0_firstFrom_10 rfl ?_
      refine g_Bi_heads dX0_firstFrom_11 ?_
      refine xs_iload_n 0 dX0_firstFrom_14 rfl ?_
      refine aln_S4 dX0_firstFrom_15 (by omega) ?_
      refine xs_sif_eq (t := 26) dX0_firstFrom_16 (by decide) (fun c16 => ?_) (fun c16 => ?_)
      · refine xs_iinc_n (L' := [(2, _), (0, _)]) 0 dX0_firstFrom_26 rfl (by decide) rfl ?_
        refine xs_goto (t := 2) dX0_firstFrom_29 (by decide) ?_
        refine xs_sub (L' := [(2, _), (0, _)]) [0, 1] rfl ?_
        exact ih _ (by omega) (by omega) (by simp only [mBi_fromL, if_neg c7, if_pos c16] at hX; exact hX)
      · refine xs_aload_n 1 dX0_firstFrom_19 rfl ?_
        refine g_Bi_heads dX0_firstFrom_20 ?_
        refine xs_iload_n 0 dX0_firstFrom_23 rfl ?_
        refine aln_S4 dX0_firstFrom_24 (by omega) ?_
        exact xs_iret hX rfl dX0_firstFrom_25 (by simp only [mBi_fromL, if_neg c7, if_neg c16]) rfl
set_option maxHeartbeats 4000000 in
set_option maxRecDepth 100000 in
theorem c_Bi_from (ad : Nat → Nat) (cA : ClassId) (s : zT) (p : Nat) (hr : rok s) (hp : p < 2 ^ 31) : xct cA yX0_firstFrom cX0_firstFrom 3 (some .int) R_Bi_from [.ref (ad 1), .int (nI p)] (wd ad cA s) (some (.int (zs (mBi_from s p)))) (wd ad cA (s)) := by
  refine xct_of (own := RX0) (by decide) rfl (Nat.le_of_ble_eq_true rfl) (fun X hX => ?_)
  show xs X cA RX0 cX0_firstFrom 3 (some .int) R_Bi_from (wd ad cA s) 0 0 0 [(0, .ref (ad 1)), (1, .int (nI p))] []
  refine xs_iload_n 1 dX0_firstFrom_0 rfl ?_
  refine xs_istore_n (L' := [(2, _), (0, _), (1, _)]) dX0_firstFrom_1 (by decide) rfl ?_
  refine xs_sub (L' := [(2, _), (0, _)]) [0, 1] rfl ?_
  exact t_Bi_from hr _ _ rfl hp hX
theorem k_Bi_from {X : xz_X} {cA : ClassId} {own : String} {ad : Nat → Nat} {cc : ByteArray} {nL : Nat} {ret : Option FieldType} {R : Room} {s : zT} {pc ix : Nat} {L : List (Nat × Value)} {st : List Value} {p : Nat} (d : decode cc pc = .ok (.invokevirtual ix, 3)) (hw : xwV own ix yX0_firstFrom cX0_firstFrom 3 (some .int) 1) (hR : xroom R_Bi_from 3 R) (hst : (st.map fun v => v.category).sum ≤ 8) (hr : rok s) (hp : p < 2 ^ 31) (kk : xs X cA own cc nL ret R (wd ad cA (s)) 0 0 (pc + 3) L (.int (zs (mBi_from s p)) :: st)) : xs X cA own cc nL ret R (wd ad cA s) 0 0 pc L (.int (nI p) :: .ref (ad 1) :: st) :=
  xs_call 1 (c_Bi_from ad cA s p hr hp) rfl rfl d hw hR rfl rfl rfl hst ⟨Nat.zero_le _, Nat.zero_le _⟩ kk
abbrev R_Bi_behind : Room := { frames := 2, cells := 0, slots := 0, locals := 43 }
set_option maxRecDepth 100000 in
theorem kw_Bi_Bi_from : xwV RX0 62 yX0_firstFrom cX0_firstFrom 3 (some .int) 1 := ⟨⟨xt_of (List.mem_of_getElem? (i := 211) rfl) rfl, xt_of (by decide +kernel) rfl, xt_of (by decide +kernel) rfl, by decide +kernel⟩, xt_of (by decide +kernel) rfl, xt_of (by decide +kernel) rfl⟩
set_option maxHeartbeats 4000000 in
set_option maxRecDepth 100000 in
theorem c_Bi_behind (ad : Nat → Nat) (cA : ClassId) (s : zT) (a : zS) (hr : rok s) : xct cA yX0_behind cX0_behind 2 (some .int) R_Bi_behind [.ref (ad 1), .int (zs a)] (wd ad cA s) (some (.int (zs (mBi_behind s a)))) (wd ad cA (s)) := by
  refine xct_of (own := RX0) (by decide) rfl (Nat.le_of_ble_eq_true rfl) (fun X hX => ?_)
  show xs X cA RX0 cX0_behind 2 (some .int) R_Bi_behind (wd ad cA s) 0 0 0 [(0, .ref (ad 1)), (1, .int (zs a))] []
  refine xs_aload_n 0 dX0_behind_0 rfl ?_
  refine g_Bi_next dX0_behind_1 ?_
  refine xs_iload_n 1 dX0_behind_4 rfl ?_
  refine al_S2 dX0_behind_5 ?_
  refine xs_sif_eq (t := 16) dX0_behind_6 (by decide) (fun c6 => ?_) (fun c6 => ?_)
  · refine xs_aload_n 0 dX0_behind_16 rfl ?_
    refine xs_aload_n 0 dX0_behind_17 rfl ?_
    refine xs_aload_n 0 dX0_behind_18 rfl ?_
    refine g_Bi_trees dX0_behind_19 ?_
    refine xs_iload_n 1 dX0_behind_22 rfl ?_
    refine k_Tr_keyOf dX0_behind_23 kw_Bi_Tr_keyOf (by decide) (Nat.le_of_ble_eq_true rfl) ?_
    refine k_Bi_place dX0_behind_26 kw_Bi_Bi_place (by decide) (Nat.le_of_ble_eq_true rfl) hr ?_
    refine xs_iconst (v := 1) dX0_behind_29 (by decide) ?_
    refine xs_iadd dX0_behind_30 ?_
    refine xs_top (zp_succ _) ?_
    refine k_Bi_from dX0_behind_31 kw_Bi_Bi_from (by decide) (Nat.le_of_ble_eq_true rfl) hr (Nat.lt_trans (Nat.succ_lt_succ (Fin.isLt _)) (by decide)) ?_
    exact xs_iret hX rfl dX0_behind_34 (by simp only [mBi_behind, if_pos c6]) rfl
  · refine xs_aload_n 0 dX0_behind_9 rfl ?_
    refine g_Bi_next dX0_behind_10 ?_
    refine xs_iload_n 1 dX0_behind_13 rfl ?_
    refine al_S2 dX0_behind_14 ?_
    exact xs_iret hX rfl dX0_behind_15 (by simp only [mBi_behind, if_neg c6]) rfl
theorem k_Bi_behind {X : xz_X} {cA : ClassId} {own : String} {ad : Nat → Nat} {cc : ByteArray} {nL : Nat} {ret : Option FieldType} {R : Room} {s : zT} {pc ix : Nat} {L : List (Nat × Value)} {st : List Value} {a : zS} (d : decode cc pc = .ok (.invokevirtual ix, 3)) (hw : xwV own ix yX0_behind cX0_behind 2 (some .int) 1) (hR : xroom R_Bi_behind 2 R) (hst : (st.map fun v => v.category).sum ≤ 8) (hr : rok s) (kk : xs X cA own cc nL ret R (wd ad cA (s)) 0 0 (pc + 3) L (.int (zs (mBi_behind s a)) :: st)) : xs X cA own cc nL ret R (wd ad cA s) 0 0 pc L (.int (zs a) :: .ref (ad 1) :: st) :=
  xs_call 1 (c_Bi_behind ad cA s a hr) rfl rfl d hw hR rfl rfl rfl hst ⟨Nat.zero_le _, Nat.zero_le _⟩ kk
abbrev R_Bi_add : Room := { frames := 4, cells := 0, slots := 0, locals := 95 }
set_option maxRecDepth 100000 in
theorem kw_Bi_Bi_append : xwV RX0 65 yX0_append cX0_append 5 none 2 := ⟨⟨xt_of (List.mem_of_getElem? (i := 435) rfl) rfl, xt_of (by decide +kernel) rfl, xt_of (by decide +kernel) rfl, by decide +kernel⟩, xt_of (by decide +kernel) rfl, xt_of (by decide +kernel) rfl⟩
set_option maxRecDepth 100000 in
theorem kw_Bi_Tr_with : xwV RX0 68 yX2_with cX2_with 4 (some .int) 2 := ⟨⟨xt_of (List.mem_of_getElem? (i := 439) rfl) rfl, xt_of (by decide +kernel) rfl, xt_of (by decide +kernel) rfl, by decide +kernel⟩, xt_of (by decide +kernel) rfl, xt_of (by decide +kernel) rfl⟩
set_option maxRecDepth 100000 in
theorem kw_Bi_Bi_long : xwV RX0 71 yX0_isLong cX0_isLong 4 (some .boolean) 1 := ⟨⟨xt_of (List.mem_of_getElem? (i := 463) rfl) rfl, xt_of (by decide +kernel) rfl, xt_of (by decide +kernel) rfl, by decide +kernel⟩, xt_of (by decide +kernel) rfl, xt_of (by decide +kernel) rfl⟩
set_option maxHeartbeats 4000000 in
set_option maxRecDepth 100000 in
theorem t_Bi_add {X : xz_X} {ad : Nat → Nat} {cA : ClassId} {p : zP} : ∀ (n i : Nat) (a : zS) (s : zT), i + n = 9 → xfin X cA 0 0 none (wd ad cA (mBi_addL p n a s)) → xs X cA RX0 cX0_add 5 none R_Bi_add (wd ad cA s) 0 0 69 [(4, .int (nI i)), (3, .int (zs a)), (2, .int (zp p)), (0, .ref (ad 1))] [] := by
  intro n
  induction n with
  | zero =>
    intro i a s hi hX
    refine xs_iload 0 dX0_add_69 rfl ?_
    refine xs_bipush (v := 8) dX0_add_71 (by decide) ?_
    refine xs_icmp_gt (t := 109) dX0_add_73 (by decide) (fun c73 => ?_) (fun c73 => ?_)
    · exact xs_vret hX rfl dX0_add_109 rfl
    · exact absurd (show (8 : Int32) < nI i from (nI_ltI (a := 8) (by decide) (by omega)).mpr (by omega)) c73
  | succ n ih =>
    intro i a s hi hX
    refine xs_iload 0 dX0_add_69 rfl ?_
    refine xs_bipush (v := 8) dX0_add_71 (by decide) ?_
    refine xs_icmp_gt (t := 109) dX0_add_73 (by decide) (fun c73 => ?_) (fun c73 => ?_)
    · exact absurd (show nI 8 < nI i from c73) (fun q => absurd ((nI_ltI (a := 8) (by decide) (by omega)).mp q) (by omega))
    · refine xs_aload_n 3 dX0_add_76 rfl ?_
      refine g_Bi_roots dX0_add_77 ?_
      refine xs_iload_n 2 dX0_add_80 rfl ?_
      refine xs_aload_n 3 dX0_add_81 rfl ?_
      refine g_Bi_trees dX0_add_82 ?_
      refine xs_aload_n 3 dX0_add_85 rfl ?_
      refine g_Bi_roots dX0_add_86 ?_
      refine xs_iload_n 2 dX0_add_89 rfl ?_
      refine al_S5 dX0_add_90 ?_
      refine xs_iload_n 1 dX0_add_91 rfl ?_
      refine k_Tr_with dX0_add_92 kw_Bi_Tr_with (by decide) (Nat.le_of_ble_eq_true rfl) ?_
      refine as_S5 dX0_add_95 ?_
      refine xs_aload_n 3 dX0_add_96 rfl ?_
      refine g_Bi_next dX0_add_97 ?_
      refine xs_iload_n 1 dX0_add_100 rfl ?_
      refine al_S2 dX0_add_101 ?_
      refine xs_istore_n (L' := [(3, _), (4, _), (2, _), (0, _)]) dX0_add_102 (by decide) rfl ?_
      refine xs_iinc_n (L' := [(4, _), (3, _), (2, _), (0, _)]) 1 dX0_add_103 rfl (by decide) rfl ?_
      refine xs_goto (t := 69) dX0_add_106 (by decide) ?_
      refine xs_sub (L' := [(4, _), (3, _), (2, _), (0, _)]) [0, 1, 2, 3] rfl ?_
      exact ih _ _ _ (by omega) (by simp only [mBi_addL, if_neg c73] at hX; exact hX)
set_option maxHeartbeats 4000000 in
set_option maxRecDepth 100000 in
theorem c_Bi_add (ad : Nat → Nat) (cA : ClassId) (s : zT) (a : zS) (hr : rok s) : xct cA yX0_add cX0_add 5 none R_Bi_add [.ref (ad 1), .int (zs a)] (wd ad cA s) none (wd ad cA (mBi_add s a)) := by
  refine xct_of (own := RX0) (by decide) rfl (Nat.le_of_ble_eq_true rfl) (fun X hX => ?_)
  show xs X cA RX0 cX0_add 5 none R_Bi_add (wd ad cA s) 0 0 0 [(0, .ref (ad 1)), (1, .int (zs a))] []
  refine xs_aload_n 0 dX0_add_0 rfl ?_
  refine xs_aload_n 0 dX0_add_1 rfl ?_
  refine g_Bi_trees dX0_add_2 ?_
  refine xs_iload_n 1 dX0_add_5 rfl ?_
  refine k_Tr_keyOf dX0_add_6 kw_Bi_Tr_keyOf (by decide) (Nat.le_of_ble_eq_true rfl) ?_
  refine k_Bi_place dX0_add_9 kw_Bi_Bi_place (by decide) (Nat.le_of_ble_eq_true rfl) hr ?_
  refine xs_istore_n (L' := [(2, _), (0, _), (1, _)]) dX0_add_12 (by decide) rfl ?_
  refine xs_aload_n 1 dX0_add_13 rfl ?_
  refine xs_iload_n 0 dX0_add_14 rfl ?_
  refine xs_iload_n 2 dX0_add_15 rfl ?_
  refine k_Bi_append dX0_add_16 kw_Bi_Bi_append (by decide) (Nat.le_of_ble_eq_true rfl) ?_
  refine xs_aload_n 1 dX0_add_19 rfl ?_
  refine g_Bi_roots dX0_add_20 ?_
  refine xs_iload_n 0 dX0_add_23 rfl ?_
  refine al_S5 dX0_add_24 ?_
  refine xs_sif_eq (t := 51) dX0_add_25 (by decide) (fun c25 => ?_) (fun c25 => ?_)
  · refine xs_aload_n 1 dX0_add_51 rfl ?_
    refine xs_iload_n 0 dX0_add_52 rfl ?_
    refine k_Bi_long dX0_add_53 kw_Bi_Bi_long (by decide) (Nat.le_of_ble_eq_true rfl) ?_
    refine xs_bif_eq (t := 109) dX0_add_56 (by decide) (fun c56 => ?_) (fun c56 => ?_)
    · exact xs_vret hX rfl dX0_add_109 (by simp only [mBi_add, if_pos c25, c56, ↓reduceIte, Bool.false_eq_true])
    · refine xs_aload_n 1 dX0_add_59 rfl ?_
      refine g_Bi_heads dX0_add_60 ?_
      refine xs_iload_n 0 dX0_add_63 rfl ?_
      refine al_S4 dX0_add_64 ?_
      refine xs_istore_n (L' := [(3, _), (2, _), (0, _), (1, _)]) dX0_add_65 (by decide) rfl ?_
      refine xs_iconst (v := nI 0) dX0_add_66 rfl ?_
      refine xs_istore (L' := [(4, _), (3, _), (2, _), (0, _), (1, _)]) dX0_add_67 (by decide) rfl ?_
      refine xs_sub (L' := [(4, _), (3, _), (2, _), (0, _)]) [0, 1, 2, 3] rfl ?_
      exact t_Bi_add 9 0 _ _ rfl (by simp only [mBi_add, if_pos c25, c56, ↓reduceIte, Bool.false_eq_true] at hX; exact hX)
  · refine xs_aload_n 1 dX0_add_28 rfl ?_
    refine g_Bi_roots dX0_add_29 ?_
    refine xs_iload_n 0 dX0_add_32 rfl ?_
    refine xs_aload_n 1 dX0_add_33 rfl ?_
    refine g_Bi_trees dX0_add_34 ?_
    refine xs_aload_n 1 dX0_add_37 rfl ?_
    refine g_Bi_roots dX0_add_38 ?_
    refine xs_iload_n 0 dX0_add_41 rfl ?_
    refine al_S5 dX0_add_42 ?_
    refine xs_iload_n 2 dX0_add_43 rfl ?_
    refine k_Tr_with dX0_add_44 kw_Bi_Tr_with (by decide) (Nat.le_of_ble_eq_true rfl) ?_
    refine as_S5 dX0_add_47 ?_
    refine xs_goto (t := 109) dX0_add_48 (by decide) ?_
    exact xs_vret hX rfl dX0_add_109 (by simp only [mBi_add, if_neg c25])
theorem k_Bi_add {X : xz_X} {cA : ClassId} {own : String} {ad : Nat → Nat} {cc : ByteArray} {nL : Nat} {ret : Option FieldType} {R : Room} {s : zT} {pc ix : Nat} {L : List (Nat × Value)} {st : List Value} {a : zS} (d : decode cc pc = .ok (.invokevirtual ix, 3)) (hw : xwV own ix yX0_add cX0_add 5 none 1) (hR : xroom R_Bi_add 5 R) (hst : (st.map fun v => v.category).sum ≤ 8) (hr : rok s) (kk : xs X cA own cc nL ret R (wd ad cA (mBi_add s a)) 0 0 (pc + 3) L (st)) : xs X cA own cc nL ret R (wd ad cA s) 0 0 pc L (.int (zs a) :: .ref (ad 1) :: st) :=
  xs_call 1 (c_Bi_add ad cA s a hr) rfl rfl d hw hR rfl rfl rfl hst ⟨Nat.zero_le _, Nat.zero_le _⟩ kk
abbrev R_Bi_remove : Room := { frames := 4, cells := 0, slots := 0, locals := 97 }
set_option maxRecDepth 100000 in
theorem kw_Bi_Bi_unlink : xwV RX0 75 yX0_unlink cX0_unlink 6 none 2 := ⟨⟨xt_of (List.mem_of_getElem? (i := 480) rfl) rfl, xt_of (by decide +kernel) rfl, xt_of (by decide +kernel) rfl, by decide +kernel⟩, xt_of (by decide +kernel) rfl, xt_of (by decide +kernel) rfl⟩
set_option maxRecDepth 100000 in
theorem kw_Bi_Tr_without : xwV RX0 78 yX2_without cX2_without 6 (some .int) 2 := ⟨⟨xt_of (List.mem_of_getElem? (i := 484) rfl) rfl, xt_of (by decide +kernel) rfl, xt_of (by decide +kernel) rfl, by decide +kernel⟩, xt_of (by decide +kernel) rfl, xt_of (by decide +kernel) rfl⟩
set_option maxRecDepth 100000 in
theorem kw_Bi_Tr_heightOf : xwV RX0 81 yX2_heightOf cX2_heightOf 2 (some .int) 1 := ⟨⟨xt_of (List.mem_of_getElem? (i := 265) rfl) rfl, xt_of (by decide +kernel) rfl, xt_of (by decide +kernel) rfl, by decide +kernel⟩, xt_of (by decide +kernel) rfl, xt_of (by decide +kernel) rfl⟩
set_option maxHeartbeats 4000000 in
set_option maxRecDepth 100000 in
theorem c_Bi_remove (ad : Nat → Nat) (cA : ClassId) (s : zT) (a : zS) (hr : rok s) : xct cA yX0_remove cX0_remove 4 none R_Bi_remove [.ref (ad 1), .int (zs a)] (wd ad cA s) none (wd ad cA (mBi_remove s a)) := by
  refine xct_of (own := RX0) (by decide) rfl (Nat.le_of_ble_eq_true rfl) (fun X hX => ?_)
  show xs X cA RX0 cX0_remove 4 none R_Bi_remove (wd ad cA s) 0 0 0 [(0, .ref (ad 1)), (1, .int (zs a))] []
  refine xs_aload_n 0 dX0_remove_0 rfl ?_
  refine xs_aload_n 0 dX0_remove_1 rfl ?_
  refine g_Bi_trees dX0_remove_2 ?_
  refine xs_iload_n 1 dX0_remove_5 rfl ?_
  refine k_Tr_keyOf dX0_remove_6 kw_Bi_Tr_keyOf (by decide) (Nat.le_of_ble_eq_true rfl) ?_
  refine k_Bi_place dX0_remove_9 kw_Bi_Bi_place (by decide) (Nat.le_of_ble_eq_true rfl) hr ?_
  refine xs_istore_n (L' := [(2, _), (0, _), (1, _)]) dX0_remove_12 (by decide) rfl ?_
  refine xs_aload_n 1 dX0_remove_13 rfl ?_
  refine xs_iload_n 0 dX0_remove_14 rfl ?_
  refine xs_iload_n 2 dX0_remove_15 rfl ?_
  refine k_Bi_unlink dX0_remove_16 kw_Bi_Bi_unlink (by decide) (Nat.le_of_ble_eq_true rfl) ?_
  refine xs_aload_n 1 dX0_remove_19 rfl ?_
  refine g_Bi_roots dX0_remove_20 ?_
  refine xs_iload_n 0 dX0_remove_23 rfl ?_
  refine al_S5 dX0_remove_24 ?_
  refine xs_sif_eq (t := 66) dX0_remove_25 (by decide) (fun c25 => ?_) (fun c25 => ?_)
  · exact xs_vret hX rfl dX0_remove_66 (by simp only [mBi_remove, if_pos c25])
  · refine xs_aload_n 1 dX0_remove_28 rfl ?_
    refine g_Bi_trees dX0_remove_29 ?_
    refine xs_aload_n 1 dX0_remove_32 rfl ?_
    refine g_Bi_roots dX0_remove_33 ?_
    refine xs_iload_n 0 dX0_remove_36 rfl ?_
    refine al_S5 dX0_remove_37 ?_
    refine xs_iload_n 2 dX0_remove_38 rfl ?_
    refine k_Tr_without dX0_remove_39 kw_Bi_Tr_without (by decide) (Nat.le_of_ble_eq_true rfl) ?_
    refine xs_istore_n (L' := [(3, _), (2, _), (0, _), (1, _)]) dX0_remove_42 (by decide) rfl ?_
    refine xs_aload_n 2 dX0_remove_43 rfl ?_
    refine g_Bi_roots dX0_remove_44 ?_
    refine xs_iload_n 1 dX0_remove_47 rfl ?_
    refine xs_aload_n 2 dX0_remove_48 rfl ?_
    refine g_Bi_trees dX0_remove_49 ?_
    refine xs_iload_n 0 dX0_remove_52 rfl ?_
    refine k_Tr_heightOf dX0_remove_53 kw_Bi_Tr_heightOf (by decide) (Nat.le_of_ble_eq_true rfl) ?_
    refine xs_iconst (v := 3) dX0_remove_56 (by decide) ?_
    refine xs_icmp_ge (t := 64) dX0_remove_57 (by decide) (fun c57 => ?_) (fun c57 => ?_)
    · refine xs_iload_n 0 dX0_remove_64 rfl ?_
      refine as_S5 dX0_remove_65 ?_
      exact xs_vret hX rfl dX0_remove_66 (by simp only [mBi_remove, if_neg c25, if_pos c57])
    · refine xs_iconst (v := zs 0) dX0_remove_60 rfl ?_
      refine xs_goto (t := 65) dX0_remove_61 (by decide) ?_
      refine as_S5 dX0_remove_65 ?_
      exact xs_vret hX rfl dX0_remove_66 (by simp only [mBi_remove, if_neg c25, if_neg c57])
theorem k_Bi_remove {X : xz_X} {cA : ClassId} {own : String} {ad : Nat → Nat} {cc : ByteArray} {nL : Nat} {ret : Option FieldType} {R : Room} {s : zT} {pc ix : Nat} {L : List (Nat × Value)} {st : List Value} {a : zS} (d : decode cc pc = .ok (.invokevirtual ix, 3)) (hw : xwV own ix yX0_remove cX0_remove 4 none 1) (hR : xroom R_Bi_remove 4 R) (hst : (st.map fun v => v.category).sum ≤ 8) (hr : rok s) (kk : xs X cA own cc nL ret R (wd ad cA (mBi_remove s a)) 0 0 (pc + 3) L (st)) : xs X cA own cc nL ret R (wd ad cA s) 0 0 pc L (.int (zs a) :: .ref (ad 1) :: st) :=
  xs_call 1 (c_Bi_remove ad cA s a hr) rfl rfl d hw hR rfl rfl rfl hst ⟨Nat.zero_le _, Nat.zero_le _⟩ kk
abbrev R_Bi_drain : Room := { frames := 1, cells := 0, slots := 0, locals := 23 }
set_option maxHeartbeats 4000000 in
set_option maxRecDepth 100000 in
theorem c_Bi_drain (ad : Nat → Nat) (cA : ClassId) (s : zT) : xct cA yX0_drain cX0_drain 1 none R_Bi_drain [.ref (ad 1)] (wd ad cA s) none (wd ad cA (mBi_drain s)) := by
  refine xct_of (own := RX0) (by decide) rfl (Nat.le_of_ble_eq_true rfl) (fun X hX => ?_)
  show xs X cA RX0 cX0_drain 1 none R_Bi_drain (wd ad cA s) 0 0 0 [(0, .ref (ad 1))] []
  refine xs_aload_n 0 dX0_drain_0 rfl ?_
  refine g_Bi_heads dX0_drain_1 ?_
  refine xs_iconst (v := 0) dX0_drain_4 (by decide) ?_
  refine k_fill_S4 dX0_drain_5 kw_fill (by decide) (Nat.le_of_ble_eq_true rfl) ?_
  refine xs_aload_n 0 dX0_drain_8 rfl ?_
  refine g_Bi_roots dX0_drain_9 ?_
  refine xs_iconst (v := 0) dX0_drain_12 (by decide) ?_
  refine k_fill_S5 dX0_drain_13 kw_fill (by decide) (Nat.le_of_ble_eq_true rfl) ?_
  exact xs_vret hX rfl dX0_drain_16 rfl
theorem k_Bi_drain {X : xz_X} {cA : ClassId} {own : String} {ad : Nat → Nat} {cc : ByteArray} {nL : Nat} {ret : Option FieldType} {R : Room} {s : zT} {pc ix : Nat} {L : List (Nat × Value)} {st : List Value} (d : decode cc pc = .ok (.invokevirtual ix, 3)) (hw : xwV own ix yX0_drain cX0_drain 1 none 0) (hR : xroom R_Bi_drain 1 R) (hst : (st.map fun v => v.category).sum ≤ 8) (kk : xs X cA own cc nL ret R (wd ad cA (mBi_drain s)) 0 0 (pc + 3) L (st)) : xs X cA own cc nL ret R (wd ad cA s) 0 0 pc L (.ref (ad 1) :: st) :=
  xs_call 1 (c_Bi_drain ad cA s) rfl rfl d hw hR rfl rfl rfl hst ⟨Nat.zero_le _, Nat.zero_le _⟩ kk
abbrev R_Bi_begin : Room := { frames := 2, cells := 0, slots := 0, locals := 43 }
set_option maxRecDepth 100000 in
theorem kw_Bi_Bi_drain : xwV RX0 38 yX0_drain cX0_drain 1 none 0 := ⟨⟨xt_of (List.mem_of_getElem? (i := 196) rfl) rfl, xt_of (by decide +kernel) rfl, xt_of (by decide +kernel) rfl, by decide +kernel⟩, xt_of (by decide +kernel) rfl, xt_of (by decide +kernel) rfl⟩
set_option maxHeartbeats 4000000 in
set_option maxRecDepth 100000 in
theorem c_Bi_begin (ad : Nat → Nat) (cA : ClassId) (s : zT) (f : Int32) : xct cA yX0_begin cX0_begin 2 none R_Bi_begin [.ref (ad 1), .int f] (wd ad cA s) none (wd ad cA (mBi_begin s f)) := by
  refine xct_of (own := RX0) (by decide) rfl (Nat.le_of_ble_eq_true rfl) (fun X hX => ?_)
  show xs X cA RX0 cX0_begin 2 none R_Bi_begin (wd ad cA s) 0 0 0 [(0, .ref (ad 1)), (1, .int f)] []
  refine xs_aload_n 0 dX0_begin_0 rfl ?_
  refine k_Bi_drain dX0_begin_1 kw_Bi_Bi_drain (by decide) (Nat.le_of_ble_eq_true rfl) ?_
  refine xs_aload_n 0 dX0_begin_4 rfl ?_
  refine xs_bipush (v := 16) dX0_begin_5 (by decide) ?_
  refine p_Bi_room dX0_begin_7 ?_
  refine xs_aload_n 0 dX0_begin_10 rfl ?_
  refine xs_iload_n 1 dX0_begin_11 rfl ?_
  refine p_Bi_function dX0_begin_12 ?_
  exact xs_vret hX rfl dX0_begin_15 rfl
theorem k_Bi_begin {X : xz_X} {cA : ClassId} {own : String} {ad : Nat → Nat} {cc : ByteArray} {nL : Nat} {ret : Option FieldType} {R : Room} {s : zT} {pc ix : Nat} {L : List (Nat × Value)} {st : List Value} {f : Int32} (d : decode cc pc = .ok (.invokevirtual ix, 3)) (hw : xwV own ix yX0_begin cX0_begin 2 none 1) (hR : xroom R_Bi_begin 2 R) (hst : (st.map fun v => v.category).sum ≤ 8) (kk : xs X cA own cc nL ret R (wd ad cA (mBi_begin s f)) 0 0 (pc + 3) L (st)) : xs X cA own cc nL ret R (wd ad cA s) 0 0 pc L (.int f :: .ref (ad 1) :: st) :=
  xs_call 1 (c_Bi_begin ad cA s f) rfl rfl d hw hR rfl rfl rfl hst ⟨Nat.zero_le _, Nat.zero_le _⟩ kk
abbrev R_Bi_stretch : Room := { frames := 2, cells := 0, slots := 0, locals := 43 }
set_option maxHeartbeats 4000000 in
set_option maxRecDepth 100000 in
theorem c_Bi_stretch (ad : Nat → Nat) (cA : ClassId) (s : zT) : xct cA yX0_stretch cX0_stretch 1 none R_Bi_stretch [.ref (ad 1)] (wd ad cA s) none (wd ad cA (mBi_stretch s)) := by
  refine xct_of (own := RX0) (by decide) rfl (Nat.le_of_ble_eq_true rfl) (fun X hX => ?_)
  show xs X cA RX0 cX0_stretch 1 none R_Bi_stretch (wd ad cA s) 0 0 0 [(0, .ref (ad 1))] []
  refine xs_aload_n 0 dX0_stretch_0 rfl ?_
  refine k_Bi_drain dX0_stretch_1 kw_Bi_Bi_drain (by decide) (Nat.le_of_ble_eq_true rfl) ?_
  refine xs_aload_n 0 dX0_stretch_4 rfl ?_
  refine xs_aload_n 0 dX0_stretch_5 rfl ?_
  refine g_Bi_room dX0_stretch_6 ?_
  refine xs_iconst (v := 2) dX0_stretch_9 (by decide) ?_
  refine xs_imul dX0_stretch_10 ?_
  refine p_Bi_room dX0_stretch_11 ?_
  exact xs_vret hX rfl dX0_stretch_14 rfl
theorem k_Bi_stretch {X : xz_X} {cA : ClassId} {own : String} {ad : Nat → Nat} {cc : ByteArray} {nL : Nat} {ret : Option FieldType} {R : Room} {s : zT} {pc ix : Nat} {L : List (Nat × Value)} {st : List Value} (d : decode cc pc = .ok (.invokevirtual ix, 3)) (hw : xwV own ix yX0_stretch cX0_stretch 1 none 0) (hR : xroom R_Bi_stretch 1 R) (hst : (st.map fun v => v.category).sum ≤ 8) (kk : xs X cA own cc nL ret R (wd ad cA (mBi_stretch s)) 0 0 (pc + 3) L (st)) : xs X cA own cc nL ret R (wd ad cA s) 0 0 pc L (.ref (ad 1) :: st) :=
  xs_call 1 (c_Bi_stretch ad cA s) rfl rfl d hw hR rfl rfl rfl hst ⟨Nat.zero_le _, Nat.zero_le _⟩ kk
abbrev R_Bi_tf : Room := { frames := 2, cells := 0, slots := 0, locals := 48 }
set_option maxRecDepth 100000 in
theorem kw_Bi_Bi_len : xwV RX0 87 yX0_lengthOf cX0_lengthOf 4 (some .int) 1 := ⟨⟨xt_of (List.mem_of_getElem? (i := 261) rfl) rfl, xt_of (by decide +kernel) rfl, xt_of (by decide +kernel) rfl, by decide +kernel⟩, xt_of (by decide +kernel) rfl, xt_of (by decide +kernel) rfl⟩
set_option maxRecDepth 100000 in
theorem kw_Bi_Tr_fa : xwV RX0 98 yX2_faultsAt cX2_faultsAt 6 (some .int) 1 := ⟨⟨xt_of (List.mem_of_getElem? (i := 269) rfl) rfl, xt_of (by decide +kernel) rfl, xt_of (by decide +kernel) rfl, by decide +kernel⟩, xt_of (by decide +kernel) rfl, xt_of (by decide +kernel) rfl⟩
set_option maxRecDepth 100000 in
theorem kw_Bi_Tr_br : xwV RX0 99 yX2_branchesOf cX2_branchesOf 2 (some .int) 1 := ⟨⟨xt_of (List.mem_of_getElem? (i := 277) rfl) rfl, xt_of (by decide +kernel) rfl, xt_of (by decide +kernel) rfl, by decide +kernel⟩, xt_of (by decide +kernel) rfl, xt_of (by decide +kernel) rfl⟩
set_option maxHeartbeats 4000000 in
set_option maxRecDepth 100000 in
theorem t_Bi_tf {X : xz_X} {ad : Nat → Nat} {cA : ClassId} {s : zT} {len : Int32} : ∀ (n i : Nat) (x b : Int32) (a : zS), i + n = len.toNatClampNeg → xfin X cA 0 0 (some (.int (mBi_tfL s len n x b a))) (wd ad cA (s)) → xs X cA RX0 cX0_treeFaultsAt 7 (some .int) R_Bi_tf (wd ad cA s) 0 0 64 [(6, .int (nI i)), (5, .int (zs a)), (4, .int b), (3, .int x), (2, .int len), (0, .ref (ad 1))] [] := by
  intro n
  induction n with
  | zero =>
    intro i x b a hi hX
    refine xs_iload 0 dX0_treeFaultsAt_64 rfl ?_
    refine xs_iload_n 4 dX0_treeFaultsAt_66 rfl ?_
    refine xs_icmp_ge (t := 111) dX0_treeFaultsAt_67 (by decide) (fun c67 => ?_) (fun c67 => ?_)
    · refine xs_iload 2 dX0_treeFaultsAt_111 rfl ?_
      refine xs_iload_n 4 dX0_treeFaultsAt_113 rfl ?_
      refine xs_iconst (v := 1) dX0_treeFaultsAt_114 (by decide) ?_
      refine xs_isub dX0_treeFaultsAt_115 ?_
      refine xs_icmp_ne (t := 123) dX0_treeFaultsAt_116 (by decide) (fun c116 => ?_) (fun c116 => ?_)
      · refine xs_iload_n 3 dX0_treeFaultsAt_123 rfl ?_
        refine xs_iconst (v := 1) dX0_treeFaultsAt_124 (by decide) ?_
        refine xs_iadd dX0_treeFaultsAt_125 ?_
        exact xs_iret hX rfl dX0_treeFaultsAt_126 (by simp only [mBi_tfL, if_pos c67, if_neg c116]) rfl
      · refine xs_iload_n 3 dX0_treeFaultsAt_119 rfl ?_
        refine xs_goto (t := 126) dX0_treeFaultsAt_120 (by decide) ?_
        exact xs_iret hX rfl dX0_treeFaultsAt_126 (by simp only [mBi_tfL, if_pos c67, if_pos c116]) rfl
    · exact absurd (cnt_le (by omega) (by have := cnt_lt31 len; omega)) c67
  | succ n ih =>
    intro i x b a hi hX
    refine xs_iload 0 dX0_treeFaultsAt_64 rfl ?_
    refine xs_iload_n 4 dX0_treeFaultsAt_66 rfl ?_
    refine xs_icmp_ge (t := 111) dX0_treeFaultsAt_67 (by decide) (fun c67 => ?_) (fun c67 => ?_)
    · exact absurd c67 (cnt_nle (by omega))
    · refine xs_iload_n 3 dX0_treeFaultsAt_70 rfl ?_
      refine xs_aload_n 5 dX0_treeFaultsAt_71 rfl ?_
      refine g_Bi_trees dX0_treeFaultsAt_72 ?_
      refine xs_iload 1 dX0_treeFaultsAt_75 rfl ?_
      refine k_Tr_fa dX0_treeFaultsAt_77 kw_Bi_Tr_fa (by decide) (Nat.le_of_ble_eq_true rfl) ?_
      refine xs_iadd dX0_treeFaultsAt_80 ?_
      refine xs_istore_n (L' := [(3, _), (6, _), (5, _), (4, _), (2, _), (0, _)]) dX0_treeFaultsAt_81 (by decide) rfl ?_
      refine xs_iload 3 dX0_treeFaultsAt_82 rfl ?_
      refine xs_aload_n 5 dX0_treeFaultsAt_84 rfl ?_
      refine g_Bi_trees dX0_treeFaultsAt_85 ?_
      refine xs_iload 2 dX0_treeFaultsAt_88 rfl ?_
      refine k_Tr_br dX0_treeFaultsAt_90 kw_Bi_Tr_br (by decide) (Nat.le_of_ble_eq_true rfl) ?_
      refine xs_iadd dX0_treeFaultsAt_93 ?_
      refine xs_istore (L' := [(4, _), (3, _), (6, _), (5, _), (2, _), (0, _)]) dX0_treeFaultsAt_94 (by decide) rfl ?_
      refine xs_aload_n 5 dX0_treeFaultsAt_96 rfl ?_
      refine g_Bi_next dX0_treeFaultsAt_97 ?_
      refine xs_iload 3 dX0_treeFaultsAt_100 rfl ?_
      refine al_S2 dX0_treeFaultsAt_102 ?_
      refine xs_istore (L' := [(5, _), (4, _), (3, _), (6, _), (2, _), (0, _)]) dX0_treeFaultsAt_103 (by decide) rfl ?_
      refine xs_iinc_n (L' := [(6, _), (5, _), (4, _), (3, _), (2, _), (0, _)]) 3 dX0_treeFaultsAt_105 rfl (by decide) rfl ?_
      refine xs_goto (t := 64) dX0_treeFaultsAt_108 (by decide) ?_
      refine xs_sub (L' := [(6, _), (5, _), (4, _), (3, _), (2, _), (0, _)]) [0, 1, 2, 3, 4, 5] rfl ?_
      exact ih _ _ _ _ (by omega) hX
set_option maxHeartbeats 4000000 in
set_option maxRecDepth 100000 in
theorem c_Bi_tf (ad : Nat → Nat) (cA : ClassId) (s : zT) (p : zP) : xct cA yX0_treeFaultsAt cX0_treeFaultsAt 7 (some .int) R_Bi_tf [.ref (ad 1), .int (zp p)] (wd ad cA s) (some (.int (mBi_tf s p))) (wd ad cA (s)) := by
  refine xct_of (own := RX0) (by decide) rfl (Nat.le_of_ble_eq_true rfl) (fun X hX => ?_)
  show xs X cA RX0 cX0_treeFaultsAt 7 (some .int) R_Bi_tf (wd ad cA s) 0 0 0 [(0, .ref (ad 1)), (1, .int (zp p))] []
  refine xs_aload_n 0 dX0_treeFaultsAt_0 rfl ?_
  refine xs_iload_n 1 dX0_treeFaultsAt_1 rfl ?_
  refine k_Bi_len dX0_treeFaultsAt_2 kw_Bi_Bi_len (by decide) (Nat.le_of_ble_eq_true rfl) ?_
  refine xs_istore_n (L' := [(2, _), (0, _), (1, _)]) dX0_treeFaultsAt_5 (by decide) rfl ?_
  refine xs_aload_n 1 dX0_treeFaultsAt_6 rfl ?_
  refine g_Bi_roots dX0_treeFaultsAt_7 ?_
  refine xs_iload_n 2 dX0_treeFaultsAt_10 rfl ?_
  refine al_S5 dX0_treeFaultsAt_11 ?_
  refine xs_sif_ne (t := 27) dX0_treeFaultsAt_12 (by decide) (fun c12 => ?_) (fun c12 => ?_)
  · refine xs_aload_n 1 dX0_treeFaultsAt_27 rfl ?_
    refine g_Bi_trees dX0_treeFaultsAt_28 ?_
    refine xs_aload_n 1 dX0_treeFaultsAt_31 rfl ?_
    refine g_Bi_roots dX0_treeFaultsAt_32 ?_
    refine xs_iload_n 2 dX0_treeFaultsAt_35 rfl ?_
    refine al_S5 dX0_treeFaultsAt_36 ?_
    refine k_Tr_heightOf dX0_treeFaultsAt_37 kw_Bi_Tr_heightOf (by decide) (Nat.le_of_ble_eq_true rfl) ?_
    refine xs_iconst (v := 3) dX0_treeFaultsAt_40 (by decide) ?_
    refine xs_icmp_ge (t := 48) dX0_treeFaultsAt_41 (by decide) (fun c41 => ?_) (fun c41 => ?_)
    · refine xs_iconst (v := 0) dX0_treeFaultsAt_48 (by decide) ?_
      refine xs_istore_n (L' := [(3, _), (2, _), (0, _), (1, _)]) dX0_treeFaultsAt_49 (by decide) rfl ?_
      refine xs_iconst (v := 0) dX0_treeFaultsAt_50 (by decide) ?_
      refine xs_istore (L' := [(4, _), (3, _), (2, _), (0, _), (1, _)]) dX0_treeFaultsAt_51 (by decide) rfl ?_
      refine xs_aload_n 3 dX0_treeFaultsAt_53 rfl ?_
      refine g_Bi_heads dX0_treeFaultsAt_54 ?_
      refine xs_iload_n 4 dX0_treeFaultsAt_57 rfl ?_
      refine al_S4 dX0_treeFaultsAt_58 ?_
      refine xs_istore (L' := [(5, _), (4, _), (3, _), (2, _), (0, _), (1, _)]) dX0_treeFaultsAt_59 (by decide) rfl ?_
      refine xs_iconst (v := nI 0) dX0_treeFaultsAt_61 rfl ?_
      refine xs_istore (L' := [(6, _), (5, _), (4, _), (3, _), (2, _), (0, _), (1, _)]) dX0_treeFaultsAt_62 (by decide) rfl ?_
      refine xs_sub (L' := [(6, _), (5, _), (4, _), (3, _), (2, _), (0, _)]) [0, 1, 2, 3, 4, 5] rfl ?_
      exact t_Bi_tf _ 0 _ _ _ (Nat.zero_add _) (by simp only [mBi_tf, if_neg c12, if_pos c41] at hX; exact hX)
    · refine xs_iconst (v := 1) dX0_treeFaultsAt_44 (by decide) ?_
      refine xs_goto (t := 49) dX0_treeFaultsAt_45 (by decide) ?_
      refine xs_istore_n (L' := [(3, _), (2, _), (0, _), (1, _)]) dX0_treeFaultsAt_49 (by decide) rfl ?_
      refine xs_iconst (v := 0) dX0_treeFaultsAt_50 (by decide) ?_
      refine xs_istore (L' := [(4, _), (3, _), (2, _), (0, _), (1, _)]) dX0_treeFaultsAt_51 (by decide) rfl ?_
      refine xs_aload_n 3 dX0_treeFaultsAt_53 rfl ?_
      refine g_Bi_heads dX0_treeFaultsAt_54 ?_
      refine xs_iload_n 4 dX0_treeFaultsAt_57 rfl ?_
      refine al_S4 dX0_treeFaultsAt_58 ?_
      refine xs_istore (L' := [(5, _), (4, _), (3, _), (2, _), (0, _), (1, _)]) dX0_treeFaultsAt_59 (by decide) rfl ?_
      refine xs_iconst (v := nI 0) dX0_treeFaultsAt_61 rfl ?_
      refine xs_istore (L' := [(6, _), (5, _), (4, _), (3, _), (2, _), (0, _), (1, _)]) dX0_treeFaultsAt_62 (by decide) rfl ?_
      refine xs_sub (L' := [(6, _), (5, _), (4, _), (3, _), (2, _), (0, _)]) [0, 1, 2, 3, 4, 5] rfl ?_
      exact t_Bi_tf _ 0 _ _ _ (Nat.zero_add _) (by simp only [mBi_tf, if_neg c12, if_neg c41] at hX; exact hX)
  · refine xs_iload_n 0 dX0_treeFaultsAt_15 rfl ?_
    refine xs_bipush (v := 8) dX0_treeFaultsAt_16 (by decide) ?_
    refine xs_icmp_le (t := 25) dX0_treeFaultsAt_18 (by decide) (fun c18 => ?_) (fun c18 => ?_)
    · refine xs_iconst (v := 0) dX0_treeFaultsAt_25 (by decide) ?_
      exact xs_iret hX rfl dX0_treeFaultsAt_26 (by simp only [mBi_tf, if_pos c12, if_pos c18]) rfl
    · refine xs_iconst (v := 1) dX0_treeFaultsAt_21 (by decide) ?_
      refine xs_goto (t := 26) dX0_treeFaultsAt_22 (by decide) ?_
      exact xs_iret hX rfl dX0_treeFaultsAt_26 (by simp only [mBi_tf, if_pos c12, if_neg c18]) rfl
theorem k_Bi_tf {X : xz_X} {cA : ClassId} {own : String} {ad : Nat → Nat} {cc : ByteArray} {nL : Nat} {ret : Option FieldType} {R : Room} {s : zT} {pc ix : Nat} {L : List (Nat × Value)} {st : List Value} {p : zP} (d : decode cc pc = .ok (.invokevirtual ix, 3)) (hw : xwV own ix yX0_treeFaultsAt cX0_treeFaultsAt 7 (some .int) 1) (hR : xroom R_Bi_tf 7 R) (hst : (st.map fun v => v.category).sum ≤ 8) (kk : xs X cA own cc nL ret R (wd ad cA (s)) 0 0 (pc + 3) L (.int (mBi_tf s p) :: st)) : xs X cA own cc nL ret R (wd ad cA s) 0 0 pc L (.int (zp p) :: .ref (ad 1) :: st) :=
  xs_call 1 (c_Bi_tf ad cA s p) rfl rfl d hw hR rfl rfl rfl hst ⟨Nat.zero_le _, Nat.zero_le _⟩ kk
abbrev R_Bi_fa : Room := { frames := 3, cells := 0, slots := 0, locals := 74 }
set_option maxRecDepth 100000 in
theorem kw_Bi_Bi_find : xwV RX0 93 yX0_slotOf cX0_slotOf 5 (some .int) 1 := ⟨⟨xt_of (List.mem_of_getElem? (i := 159) rfl) rfl, xt_of (by decide +kernel) rfl, xt_of (by decide +kernel) rfl, by decide +kernel⟩, xt_of (by decide +kernel) rfl, xt_of (by decide +kernel) rfl⟩
set_option maxRecDepth 100000 in
theorem kw_Bi_Bi_tf : xwV RX0 95 yX0_treeFaultsAt cX0_treeFaultsAt 7 (some .int) 1 := ⟨⟨xt_of (List.mem_of_getElem? (i := 257) rfl) rfl, xt_of (by decide +kernel) rfl, xt_of (by decide +kernel) rfl, by decide +kernel⟩, xt_of (by decide +kernel) rfl, xt_of (by decide +kernel) rfl⟩
set_option maxHeartbeats 4000000 in
set_option maxRecDepth 100000 in
theorem t_Bi_fa1 {X : xz_X} {ad : Nat → Nat} {cA : ClassId} {s : zT} {p : zP} : ∀ (x : Int32) (f : zS), xfin X cA 0 0 (some (.int (mBi_fa1 s p x f))) (wd ad cA (s)) → xs X cA RX0 cX0_faultsAt 7 (some .int) R_Bi_fa (wd ad cA s) 0 0 99 [(3, .int (zs f)), (2, .int x), (1, .int (zp p)), (0, .ref (ad 1))] [] := by
  intro x f hX
  refine xs_iload_n 0 dX0_faultsAt_99 rfl ?_
  refine xs_sif_eq (t := 121) dX0_faultsAt_100 (by decide) (fun c100 => ?_) (fun c100 => ?_)
  · refine xs_iload_n 1 dX0_faultsAt_121 rfl ?_
    refine xs_aload_n 3 dX0_faultsAt_122 rfl ?_
    refine xs_iload_n 2 dX0_faultsAt_123 rfl ?_
    refine k_Bi_tf dX0_faultsAt_124 kw_Bi_Bi_tf (by decide) (Nat.le_of_ble_eq_true rfl) ?_
    refine xs_iadd dX0_faultsAt_127 ?_
    exact xs_iret hX rfl dX0_faultsAt_128 (by simp only [mBi_fa1, if_pos c100]) rfl
  · refine xs_aload_n 3 dX0_faultsAt_103 rfl ?_
    refine g_Bi_previous dX0_faultsAt_104 ?_
    refine xs_aload_n 3 dX0_faultsAt_107 rfl ?_
    refine g_Bi_heads dX0_faultsAt_108 ?_
    refine xs_iload_n 2 dX0_faultsAt_111 rfl ?_
    refine al_S4 dX0_faultsAt_112 ?_
    refine al_S3 dX0_faultsAt_113 ?_
    refine xs_iload_n 0 dX0_faultsAt_114 rfl ?_
    refine xs_scmp_eq (t := 121) dX0_faultsAt_115 (by decide) (fun c115 => ?_) (fun c115 => ?_)
    · refine xs_iload_n 1 dX0_faultsAt_121 rfl ?_
      refine xs_aload_n 3 dX0_faultsAt_122 rfl ?_
      refine xs_iload_n 2 dX0_faultsAt_123 rfl ?_
      refine k_Bi_tf dX0_faultsAt_124 kw_Bi_Bi_tf (by decide) (Nat.le_of_ble_eq_true rfl) ?_
      refine xs_iadd dX0_faultsAt_127 ?_
      exact xs_iret hX rfl dX0_faultsAt_128 (by simp only [mBi_fa1, if_neg c100, if_pos c115]) rfl
    · refine xs_iinc_1 (L' := [(2, _), (3, _), (1, _), (0, _)]) 1 dX0_faultsAt_118 rfl (by decide) rfl ?_
      refine xs_iload_n 0 dX0_faultsAt_121 rfl ?_
      refine xs_aload_n 3 dX0_faultsAt_122 rfl ?_
      refine xs_iload_n 2 dX0_faultsAt_123 rfl ?_
      refine k_Bi_tf dX0_faultsAt_124 kw_Bi_Bi_tf (by decide) (Nat.le_of_ble_eq_true rfl) ?_
      refine xs_iadd dX0_faultsAt_127 ?_
      exact xs_iret hX rfl dX0_faultsAt_128 (by simp only [mBi_fa1, if_neg c100, if_neg c115]) rfl
set_option maxHeartbeats 4000000 in
set_option maxRecDepth 100000 in
theorem t_Bi_fa {X : xz_X} {ad : Nat → Nat} {cA : ClassId} {s : zT} {p : zP} (hr : rok s) : ∀ (n i : Nat) (x : Int32) (f a : zS), i + n = 2002 → xfin X cA 0 0 (some (.int (mBi_faL s p n x f a))) (wd ad cA (s)) → xs X cA RX0 cX0_faultsAt 7 (some .int) R_Bi_fa (wd ad cA s) 0 0 15 [(5, .int (nI i)), (4, .int (zs a)), (3, .int (zs f)), (2, .int x), (1, .int (zp p)), (0, .ref (ad 1))] [] := by
  intro n
  induction n with
  | zero =>
    intro i x f a hi hX
    refine xs_iload 0 dX0_faultsAt_15 rfl ?_
    refine xs_sipush (v := 2002) dX0_faultsAt_17 (by decide) ?_
    refine xs_icmp_ge (t := 99) dX0_faultsAt_20 (by decide) (fun c20 => ?_) (fun c20 => ?_)
    · refine xs_sub (L' := [(3, _), (2, _), (1, _), (0, _)]) [2, 3, 4, 5] rfl ?_
      exact t_Bi_fa1 _ _ hX
    · exact absurd (show (2002 : Int32) ≤ nI i from kn_le (m := 2002) (by omega) (by omega)) c20
  | succ n ih =>
    intro i x f a hi hX
    refine xs_iload 0 dX0_faultsAt_15 rfl ?_
    refine xs_sipush (v := 2002) dX0_faultsAt_17 (by decide) ?_
    refine xs_icmp_ge (t := 99) dX0_faultsAt_20 (by decide) (fun c20 => ?_) (fun c20 => ?_)
    · exact absurd c20 (show ¬ (2002 : Int32) ≤ nI i from kn_nle (m := 2002) (by omega) (by decide))
    · refine xs_iload 1 dX0_faultsAt_23 rfl ?_
      refine xs_sif_eq (t := 99) dX0_faultsAt_25 (by decide) (fun c25 => ?_) (fun c25 => ?_)
      · refine xs_sub (L' := [(3, _), (2, _), (1, _), (0, _)]) [2, 3, 4, 5] rfl ?_
        exact t_Bi_fa1 _ _ (by simp only [mBi_faL, if_neg c20, if_pos c25] at hX; exact hX)
      · refine xs_aload_n 5 dX0_faultsAt_28 rfl ?_
        refine g_Bi_trees dX0_faultsAt_29 ?_
        refine xs_iload 1 dX0_faultsAt_32 rfl ?_
        refine k_Tr_keyOf dX0_faultsAt_34 kw_Bi_Tr_keyOf (by decide) (Nat.le_of_ble_eq_true rfl) ?_
        refine xs_istore (L' := [(6, _), (5, _), (4, _), (3, _), (2, _), (1, _), (0, _)]) dX0_faultsAt_37 (by decide) rfl ?_
        refine xs_aload_n 6 dX0_faultsAt_39 rfl ?_
        refine xs_iload 0 dX0_faultsAt_40 rfl ?_
        refine k_Bi_place dX0_faultsAt_42 kw_Bi_Bi_place (by decide) (Nat.le_of_ble_eq_true rfl) hr ?_
        refine xs_iload_n 5 dX0_faultsAt_45 rfl ?_
        refine xs_pcmp_ne (t := 60) dX0_faultsAt_46 (by decide) (fun c46 => ?_) (fun c46 => ?_)
        · refine xs_iinc_1 (L' := [(2, _), (6, _), (5, _), (4, _), (3, _), (1, _), (0, _)]) 4 dX0_faultsAt_60 rfl (by decide) rfl ?_
          refine xs_iload_n 4 dX0_faultsAt_63 rfl ?_
          refine xs_sif_eq (t := 81) dX0_faultsAt_64 (by decide) (fun c64 => ?_) (fun c64 => ?_)
          · refine xs_iload 3 dX0_faultsAt_81 rfl ?_
            refine xs_istore_n (L' := [(3, _), (2, _), (6, _), (5, _), (4, _), (1, _), (0, _)]) dX0_faultsAt_83 (by decide) rfl ?_
            refine xs_aload_n 6 dX0_faultsAt_84 rfl ?_
            refine g_Bi_next dX0_faultsAt_85 ?_
            refine xs_iload 4 dX0_faultsAt_88 rfl ?_
            refine al_S2 dX0_faultsAt_90 ?_
            refine xs_istore (L' := [(4, _), (3, _), (2, _), (6, _), (5, _), (1, _), (0, _)]) dX0_faultsAt_91 (by decide) rfl ?_
            refine xs_iinc_n (L' := [(5, _), (4, _), (3, _), (2, _), (6, _), (1, _), (0, _)]) 4 dX0_faultsAt_93 rfl (by decide) rfl ?_
            refine xs_goto (t := 15) dX0_faultsAt_96 (by decide) ?_
            refine xs_sub (L' := [(5, _), (4, _), (3, _), (2, _), (1, _), (0, _)]) [0, 1, 2, 3, 5, 6] rfl ?_
            exact ih _ _ _ _ (by omega) (by simp only [mBi_faL, mBi_faL1, mBi_faL2, if_neg c20, if_neg c25, if_neg c46, if_pos c64] at hX; exact hX)
          · refine xs_aload_n 6 dX0_faultsAt_67 rfl ?_
            refine g_Bi_previous dX0_faultsAt_68 ?_
            refine xs_iload 3 dX0_faultsAt_71 rfl ?_
            refine al_S3 dX0_faultsAt_73 ?_
            refine xs_iload_n 4 dX0_faultsAt_74 rfl ?_
            refine xs_scmp_eq (t := 81) dX0_faultsAt_75 (by decide) (fun c75 => ?_) (fun c75 => ?_)
            · refine xs_iload 3 dX0_faultsAt_81 rfl ?_
              refine xs_istore_n (L' := [(3, _), (2, _), (6, _), (5, _), (4, _), (1, _), (0, _)]) dX0_faultsAt_83 (by decide) rfl ?_
              refine xs_aload_n 6 dX0_faultsAt_84 rfl ?_
              refine g_Bi_next dX0_faultsAt_85 ?_
              refine xs_iload 4 dX0_faultsAt_88 rfl ?_
              refine al_S2 dX0_faultsAt_90 ?_
              refine xs_istore (L' := [(4, _), (3, _), (2, _), (6, _), (5, _), (1, _), (0, _)]) dX0_faultsAt_91 (by decide) rfl ?_
              refine xs_iinc_n (L' := [(5, _), (4, _), (3, _), (2, _), (6, _), (1, _), (0, _)]) 4 dX0_faultsAt_93 rfl (by decide) rfl ?_
              refine xs_goto (t := 15) dX0_faultsAt_96 (by decide) ?_
              refine xs_sub (L' := [(5, _), (4, _), (3, _), (2, _), (1, _), (0, _)]) [0, 1, 2, 3, 5, 6] rfl ?_
              exact ih _ _ _ _ (by omega) (by simp only [mBi_faL, mBi_faL1, mBi_faL2, if_neg c20, if_neg c25, if_neg c46, if_neg c64, if_pos c75] at hX; exact hX)
            · refine xs_iinc_1 (L' := [(2, _), (6, _), (5, _), (4, _), (3, _), (1, _), (0, _)]) 0 dX0_faultsAt_78 rfl (by decide) rfl ?_
              refine xs_iload 3 dX0_faultsAt_81 rfl ?_
              refine xs_istore_n (L' := [(3, _), (2, _), (6, _), (5, _), (4, _), (1, _), (0, _)]) dX0_faultsAt_83 (by decide) rfl ?_
              refine xs_aload_n 6 dX0_faultsAt_84 rfl ?_
              refine g_Bi_next dX0_faultsAt_85 ?_
              refine xs_iload 4 dX0_faultsAt_88 rfl ?_
              refine al_S2 dX0_faultsAt_90 ?_
              refine xs_istore (L' := [(4, _), (3, _), (2, _), (6, _), (5, _), (1, _), (0, _)]) dX0_faultsAt_91 (by decide) rfl ?_
              refine xs_iinc_n (L' := [(5, _), (4, _), (3, _), (2, _), (6, _), (1, _), (0, _)]) 4 dX0_faultsAt_93 rfl (by decide) rfl ?_
              refine xs_goto (t := 15) dX0_faultsAt_96 (by decide) ?_
              refine xs_sub (L' := [(5, _), (4, _), (3, _), (2, _), (1, _), (0, _)]) [0, 1, 2, 3, 5, 6] rfl ?_
              exact ih _ _ _ _ (by omega) (by simp only [mBi_faL, mBi_faL1, mBi_faL2, if_neg c20, if_neg c25, if_neg c46, if_neg c64, if_neg c75] at hX; exact hX)
        · refine xs_aload_n 6 dX0_faultsAt_49 rfl ?_
          refine xs_iload 0 dX0_faultsAt_50 rfl ?_
          refine k_Bi_find dX0_faultsAt_52 kw_Bi_Bi_find (by decide) (Nat.le_of_ble_eq_true rfl) hr ?_
          refine xs_iload 2 dX0_faultsAt_55 rfl ?_
          refine xs_scmp_eq (t := 63) dX0_faultsAt_57 (by decide) (fun c57 => ?_) (fun c57 => ?_)
          · refine xs_iload_n 3 dX0_faultsAt_63 rfl ?_
            refine xs_sif_eq (t := 81) dX0_faultsAt_64 (by decide) (fun c64 => ?_) (fun c64 => ?_)
            · refine xs_iload 2 dX0_faultsAt_81 rfl ?_
              refine xs_istore_n (L' := [(3, _), (6, _), (5, _), (4, _), (2, _), (1, _), (0, _)]) dX0_faultsAt_83 (by decide) rfl ?_
              refine xs_aload_n 6 dX0_faultsAt_84 rfl ?_
              refine g_Bi_next dX0_faultsAt_85 ?_
              refine xs_iload 3 dX0_faultsAt_88 rfl ?_
              refine al_S2 dX0_faultsAt_90 ?_
              refine xs_istore (L' := [(4, _), (3, _), (6, _), (5, _), (2, _), (1, _), (0, _)]) dX0_faultsAt_91 (by decide) rfl ?_
              refine xs_iinc_n (L' := [(5, _), (4, _), (3, _), (6, _), (2, _), (1, _), (0, _)]) 3 dX0_faultsAt_93 rfl (by decide) rfl ?_
              refine xs_goto (t := 15) dX0_faultsAt_96 (by decide) ?_
              refine xs_sub (L' := [(5, _), (4, _), (3, _), (2, _), (1, _), (0, _)]) [0, 1, 2, 4, 5, 6] rfl ?_
              exact ih _ _ _ _ (by omega) (by simp only [mBi_faL, mBi_faL1, mBi_faL2, if_neg c20, if_neg c25, if_pos c46, if_pos c57, if_pos c64] at hX; exact hX)
            · refine xs_aload_n 6 dX0_faultsAt_67 rfl ?_
              refine g_Bi_previous dX0_faultsAt_68 ?_
              refine xs_iload 2 dX0_faultsAt_71 rfl ?_
              refine al_S3 dX0_faultsAt_73 ?_
              refine xs_iload_n 3 dX0_faultsAt_74 rfl ?_
              refine xs_scmp_eq (t := 81) dX0_faultsAt_75 (by decide) (fun c75 => ?_) (fun c75 => ?_)
              · refine xs_iload 2 dX0_faultsAt_81 rfl ?_
                refine xs_istore_n (L' := [(3, _), (6, _), (5, _), (4, _), (2, _), (1, _), (0, _)]) dX0_faultsAt_83 (by decide) rfl ?_
                refine xs_aload_n 6 dX0_faultsAt_84 rfl ?_
                refine g_Bi_next dX0_faultsAt_85 ?_
                refine xs_iload 3 dX0_faultsAt_88 rfl ?_
                refine al_S2 dX0_faultsAt_90 ?_
                refine xs_istore (L' := [(4, _), (3, _), (6, _), (5, _), (2, _), (1, _), (0, _)]) dX0_faultsAt_91 (by decide) rfl ?_
                refine xs_iinc_n (L' := [(5, _), (4, _), (3, _), (6, _), (2, _), (1, _), (0, _)]) 3 dX0_faultsAt_93 rfl (by decide) rfl ?_
                refine xs_goto (t := 15) dX0_faultsAt_96 (by decide) ?_
                refine xs_sub (L' := [(5, _), (4, _), (3, _), (2, _), (1, _), (0, _)]) [0, 1, 2, 4, 5, 6] rfl ?_
                exact ih _ _ _ _ (by omega) (by simp only [mBi_faL, mBi_faL1, mBi_faL2, if_neg c20, if_neg c25, if_pos c46, if_pos c57, if_neg c64, if_pos c75] at hX; exact hX)
              · refine xs_iinc_1 (L' := [(2, _), (6, _), (5, _), (4, _), (3, _), (1, _), (0, _)]) 4 dX0_faultsAt_78 rfl (by decide) rfl ?_
                refine xs_iload 3 dX0_faultsAt_81 rfl ?_
                refine xs_istore_n (L' := [(3, _), (2, _), (6, _), (5, _), (4, _), (1, _), (0, _)]) dX0_faultsAt_83 (by decide) rfl ?_
                refine xs_aload_n 6 dX0_faultsAt_84 rfl ?_
                refine g_Bi_next dX0_faultsAt_85 ?_
                refine xs_iload 4 dX0_faultsAt_88 rfl ?_
                refine al_S2 dX0_faultsAt_90 ?_
                refine xs_istore (L' := [(4, _), (3, _), (2, _), (6, _), (5, _), (1, _), (0, _)]) dX0_faultsAt_91 (by decide) rfl ?_
                refine xs_iinc_n (L' := [(5, _), (4, _), (3, _), (2, _), (6, _), (1, _), (0, _)]) 4 dX0_faultsAt_93 rfl (by decide) rfl ?_
                refine xs_goto (t := 15) dX0_faultsAt_96 (by decide) ?_
                refine xs_sub (L' := [(5, _), (4, _), (3, _), (2, _), (1, _), (0, _)]) [0, 1, 2, 3, 5, 6] rfl ?_
                exact ih _ _ _ _ (by omega) (by simp only [mBi_faL, mBi_faL1, mBi_faL2, if_neg c20, if_neg c25, if_pos c46, if_pos c57, if_neg c64, if_neg c75] at hX; exact hX)
          · refine xs_iinc_1 (L' := [(2, _), (6, _), (5, _), (4, _), (3, _), (1, _), (0, _)]) 4 dX0_faultsAt_60 rfl (by decide) rfl ?_
            refine xs_iload_n 4 dX0_faultsAt_63 rfl ?_
            refine xs_sif_eq (t := 81) dX0_faultsAt_64 (by decide) (fun c64 => ?_) (fun c64 => ?_)
            · refine xs_iload 3 dX0_faultsAt_81 rfl ?_
              refine xs_istore_n (L' := [(3, _), (2, _), (6, _), (5, _), (4, _), (1, _), (0, _)]) dX0_faultsAt_83 (by decide) rfl ?_
              refine xs_aload_n 6 dX0_faultsAt_84 rfl ?_
              refine g_Bi_next dX0_faultsAt_85 ?_
              refine xs_iload 4 dX0_faultsAt_88 rfl ?_
              refine al_S2 dX0_faultsAt_90 ?_
              refine xs_istore (L' := [(4, _), (3, _), (2, _), (6, _), (5, _), (1, _), (0, _)]) dX0_faultsAt_91 (by decide) rfl ?_
              refine xs_iinc_n (L' := [(5, _), (4, _), (3, _), (2, _), (6, _), (1, _), (0, _)]) 4 dX0_faultsAt_93 rfl (by decide) rfl ?_
              refine xs_goto (t := 15) dX0_faultsAt_96 (by decide) ?_
              refine xs_sub (L' := [(5, _), (4, _), (3, _), (2, _), (1, _), (0, _)]) [0, 1, 2, 3, 5, 6] rfl ?_
              exact ih _ _ _ _ (by omega) (by simp only [mBi_faL, mBi_faL1, mBi_faL2, if_neg c20, if_neg c25, if_pos c46, if_neg c57, if_pos c64] at hX; exact hX)
            · refine xs_aload_n 6 dX0_faultsAt_67 rfl ?_
              refine g_Bi_previous dX0_faultsAt_68 ?_
              refine xs_iload 3 dX0_faultsAt_71 rfl ?_
              refine al_S3 dX0_faultsAt_73 ?_
              refine xs_iload_n 4 dX0_faultsAt_74 rfl ?_
              refine xs_scmp_eq (t := 81) dX0_faultsAt_75 (by decide) (fun c75 => ?_) (fun c75 => ?_)
              · refine xs_iload 3 dX0_faultsAt_81 rfl ?_
                refine xs_istore_n (L' := [(3, _), (2, _), (6, _), (5, _), (4, _), (1, _), (0, _)]) dX0_faultsAt_83 (by decide) rfl ?_
                refine xs_aload_n 6 dX0_faultsAt_84 rfl ?_
                refine g_Bi_next dX0_faultsAt_85 ?_
                refine xs_iload 4 dX0_faultsAt_88 rfl ?_
                refine al_S2 dX0_faultsAt_90 ?_
                refine xs_istore (L' := [(4, _), (3, _), (2, _), (6, _), (5, _), (1, _), (0, _)]) dX0_faultsAt_91 (by decide) rfl ?_
                refine xs_iinc_n (L' := [(5, _), (4, _), (3, _), (2, _), (6, _), (1, _), (0, _)]) 4 dX0_faultsAt_93 rfl (by decide) rfl ?_
                refine xs_goto (t := 15) dX0_faultsAt_96 (by decide) ?_
                refine xs_sub (L' := [(5, _), (4, _), (3, _), (2, _), (1, _), (0, _)]) [0, 1, 2, 3, 5, 6] rfl ?_
                exact ih _ _ _ _ (by omega) (by simp only [mBi_faL, mBi_faL1, mBi_faL2, if_neg c20, if_neg c25, if_pos c46, if_neg c57, if_neg c64, if_pos c75] at hX; exact hX)
              · refine xs_iinc_1 (L' := [(2, _), (6, _), (5, _), (4, _), (3, _), (1, _), (0, _)]) 0 dX0_faultsAt_78 rfl (by decide) rfl ?_
                refine xs_iload 3 dX0_faultsAt_81 rfl ?_
                refine xs_istore_n (L' := [(3, _), (2, _), (6, _), (5, _), (4, _), (1, _), (0, _)]) dX0_faultsAt_83 (by decide) rfl ?_
                refine xs_aload_n 6 dX0_faultsAt_84 rfl ?_
                refine g_Bi_next dX0_faultsAt_85 ?_
                refine xs_iload 4 dX0_faultsAt_88 rfl ?_
                refine al_S2 dX0_faultsAt_90 ?_
                refine xs_istore (L' := [(4, _), (3, _), (2, _), (6, _), (5, _), (1, _), (0, _)]) dX0_faultsAt_91 (by decide) rfl ?_
                refine xs_iinc_n (L' := [(5, _), (4, _), (3, _), (2, _), (6, _), (1, _), (0, _)]) 4 dX0_faultsAt_93 rfl (by decide) rfl ?_
                refine xs_goto (t := 15) dX0_faultsAt_96 (by decide) ?_
                refine xs_sub (L' := [(5, _), (4, _), (3, _), (2, _), (1, _), (0, _)]) [0, 1, 2, 3, 5, 6] rfl ?_
                exact ih _ _ _ _ (by omega) (by simp only [mBi_faL, mBi_faL1, mBi_faL2, if_neg c20, if_neg c25, if_pos c46, if_neg c57, if_neg c64, if_neg c75] at hX; exact hX)
set_option maxHeartbeats 4000000 in
set_option maxRecDepth 100000 in
theorem c_Bi_fa (ad : Nat → Nat) (cA : ClassId) (s : zT) (p : zP) (hr : rok s) : xct cA yX0_faultsAt cX0_faultsAt 7 (some .int) R_Bi_fa [.ref (ad 1), .int (zp p)] (wd ad cA s) (some (.int (mBi_fa s p))) (wd ad cA (s)) := by
  refine xct_of (own := RX0) (by decide) rfl (Nat.le_of_ble_eq_true rfl) (fun X hX => ?_)
  show xs X cA RX0 cX0_faultsAt 7 (some .int) R_Bi_fa (wd ad cA s) 0 0 0 [(0, .ref (ad 1)), (1, .int (zp p))] []
  refine xs_iconst (v := 0) dX0_faultsAt_0 (by decide) ?_
  refine xs_istore_n (L' := [(2, _), (0, _), (1, _)]) dX0_faultsAt_1 (by decide) rfl ?_
  refine xs_iconst (v := zs 0) dX0_faultsAt_2 rfl ?_
  refine xs_istore_n (L' := [(3, _), (2, _), (0, _), (1, _)]) dX0_faultsAt_3 (by decide) rfl ?_
  refine xs_aload_n 2 dX0_faultsAt_4 rfl ?_
  refine g_Bi_heads dX0_faultsAt_5 ?_
  refine xs_iload_n 3 dX0_faultsAt_8 rfl ?_
  refine al_S4 dX0_faultsAt_9 ?_
  refine xs_istore (L' := [(4, _), (3, _), (2, _), (0, _), (1, _)]) dX0_faultsAt_10 (by decide) rfl ?_
  refine xs_iconst (v := nI 0) dX0_faultsAt_12 rfl ?_
  refine xs_istore (L' := [(5, _), (4, _), (3, _), (2, _), (0, _), (1, _)]) dX0_faultsAt_13 (by decide) rfl ?_
  refine xs_sub (L' := [(5, _), (4, _), (3, _), (2, _), (1, _), (0, _)]) [0, 1, 2, 3, 5, 4] rfl ?_
  exact t_Bi_fa hr 2002 0 _ _ _ rfl hX
theorem k_Bi_fa {X : xz_X} {cA : ClassId} {own : String} {ad : Nat → Nat} {cc : ByteArray} {nL : Nat} {ret : Option FieldType} {R : Room} {s : zT} {pc ix : Nat} {L : List (Nat × Value)} {st : List Value} {p : zP} (d : decode cc pc = .ok (.invokevirtual ix, 3)) (hw : xwV own ix yX0_faultsAt cX0_faultsAt 7 (some .int) 1) (hR : xroom R_Bi_fa 7 R) (hst : (st.map fun v => v.category).sum ≤ 8) (hr : rok s) (kk : xs X cA own cc nL ret R (wd ad cA (s)) 0 0 (pc + 3) L (.int (mBi_fa s p) :: st)) : xs X cA own cc nL ret R (wd ad cA s) 0 0 pc L (.int (zp p) :: .ref (ad 1) :: st) :=
  xs_call 1 (c_Bi_fa ad cA s p hr) rfl rfl d hw hR rfl rfl rfl hst ⟨Nat.zero_le _, Nat.zero_le _⟩ kk
abbrev R_Bi_faults : Room := { frames := 4, cells := 0, slots := 0, locals := 100 }
set_option maxRecDepth 100000 in
theorem kw_Bi_Bi_fa : xwV RX0 84 yX0_faultsAt cX0_faultsAt 7 (some .int) 1 := ⟨⟨xt_of (List.mem_of_getElem? (i := 252) rfl) rfl, xt_of (by decide +kernel) rfl, xt_of (by decide +kernel) rfl, by decide +kernel⟩, xt_of (by decide +kernel) rfl, xt_of (by decide +kernel) rfl⟩
set_option maxRecDepth 100000 in
theorem kw_Bi_Bi_tight : xwV RX0 90 yX0_isTight cX0_isTight 2 (some .boolean) 1 := ⟨⟨xt_of (List.mem_of_getElem? (i := 281) rfl) rfl, xt_of (by decide +kernel) rfl, xt_of (by decide +kernel) rfl, by decide +kernel⟩, xt_of (by decide +kernel) rfl, xt_of (by decide +kernel) rfl⟩
set_option maxHeartbeats 4000000 in
set_option maxRecDepth 100000 in
theorem t_Bi_f2 {X : xz_X} {ad : Nat → Nat} {cA : ClassId} {s : zT} {c : Int32} : ∀ (x : Int32), xfin X cA 0 0 (some (.int (mBi_faults2 s c x))) (wd ad cA (s)) → xs X cA RX0 cX0_faults 5 (some .int) R_Bi_faults (wd ad cA s) 0 0 48 [(2, .int x), (1, .int c), (0, .ref (ad 1))] [] := by
  intro x hX
  refine xs_aload_n 2 dX0_faults_48 rfl ?_
  refine xs_iload_n 1 dX0_faults_49 rfl ?_
  refine k_Bi_tight dX0_faults_50 kw_Bi_Bi_tight (by decide) (Nat.le_of_ble_eq_true rfl) ?_
  refine xs_bif_eq (t := 59) dX0_faults_53 (by decide) (fun c53 => ?_) (fun c53 => ?_)
  · refine xs_iload_n 0 dX0_faults_59 rfl ?_
    exact xs_iret hX rfl dX0_faults_60 (by simp only [mBi_faults2, c53, ↓reduceIte, Bool.false_eq_true]) rfl
  · refine xs_iinc_1 (L' := [(2, _), (1, _), (0, _)]) 0 dX0_faults_56 rfl (by decide) rfl ?_
    refine xs_iload_n 0 dX0_faults_59 rfl ?_
    exact xs_iret hX rfl dX0_faults_60 (by simp only [mBi_faults2, c53, ↓reduceIte, Bool.false_eq_true]) rfl
set_option maxHeartbeats 4000000 in
set_option maxRecDepth 100000 in
theorem t_Bi_f1 {X : xz_X} {ad : Nat → Nat} {cA : ClassId} {s : zT} {c : Int32} : ∀ (x y : Int32), xfin X cA 0 0 (some (.int (mBi_faults1 s c x y))) (wd ad cA (s)) → xs X cA RX0 cX0_faults 5 (some .int) R_Bi_faults (wd ad cA s) 0 0 40 [(3, .int y), (2, .int x), (1, .int c), (0, .ref (ad 1))] [] := by
  intro x y hX
  refine xs_iload_n 0 dX0_faults_40 rfl ?_
  refine xs_iload_n 2 dX0_faults_41 rfl ?_
  refine xs_icmp_eq (t := 48) dX0_faults_42 (by decide) (fun c42 => ?_) (fun c42 => ?_)
  · refine xs_sub (L' := [(2, _), (1, _), (0, _)]) [1, 2, 3] rfl ?_
    exact t_Bi_f2 _ (by simp only [mBi_faults1, if_pos c42] at hX; exact hX)
  · refine xs_iinc_1 (L' := [(2, _), (3, _), (1, _), (0, _)]) 1 dX0_faults_45 rfl (by decide) rfl ?_
    refine xs_sub (L' := [(2, _), (1, _), (0, _)]) [0, 2, 3] rfl ?_
    exact t_Bi_f2 _ (by simp only [mBi_faults1, if_neg c42] at hX; exact hX)
set_option maxHeartbeats 4000000 in
set_option maxRecDepth 100000 in
theorem t_Bi_f0 {X : xz_X} {ad : Nat → Nat} {cA : ClassId} {s : zT} {c : Int32} (hr : rok s) : ∀ (n i : Nat) (x y : Int32), i + n = (s.2 4 3).toNatClampNeg → xfin X cA 0 0 (some (.int (mBi_faultsL s c n i x y))) (wd ad cA (s)) → xs X cA RX0 cX0_faults 5 (some .int) R_Bi_faults (wd ad cA s) 0 0 7 [(4, .int (nI i)), (3, .int y), (2, .int x), (1, .int c), (0, .ref (ad 1))] [] := by
  intro n
  induction n with
  | zero =>
    intro i x y hi hX
    refine xs_iload 0 dX0_faults_7 rfl ?_
    refine xs_aload_n 4 dX0_faults_9 rfl ?_
    refine g_Bi_room dX0_faults_10 ?_
    refine xs_icmp_ge (t := 40) dX0_faults_13 (by decide) (fun c13 => ?_) (fun c13 => ?_)
    · refine xs_sub (L' := [(3, _), (2, _), (1, _), (0, _)]) [1, 2, 3, 4] rfl ?_
      exact t_Bi_f1 _ _ hX
    · exact absurd (cnt_le (by omega) (by have := cnt_lt31 (s.2 4 3); omega)) c13
  | succ n ih =>
    intro i x y hi hX
    have h4 := rok_le hr
    refine xs_iload 0 dX0_faults_7 rfl ?_
    refine xs_aload_n 4 dX0_faults_9 rfl ?_
    refine g_Bi_room dX0_faults_10 ?_
    refine xs_icmp_ge (t := 40) dX0_faults_13 (by decide) (fun c13 => ?_) (fun c13 => ?_)
    · exact absurd c13 (cnt_nle (by omega))
    · refine xs_iload_n 2 dX0_faults_16 rfl ?_
      refine xs_aload_n 4 dX0_faults_17 rfl ?_
      refine xs_iload 0 dX0_faults_18 rfl ?_
      refine xs_top (zp_of (by omega)).symm ?_
      refine k_Bi_fa dX0_faults_20 kw_Bi_Bi_fa (by decide) (Nat.le_of_ble_eq_true rfl) hr ?_
      refine xs_iadd dX0_faults_23 ?_
      refine xs_istore_n (L' := [(2, _), (4, _), (3, _), (1, _), (0, _)]) dX0_faults_24 (by decide) rfl ?_
      refine xs_iload_n 2 dX0_faults_25 rfl ?_
      refine xs_aload_n 4 dX0_faults_26 rfl ?_
      refine xs_iload 1 dX0_faults_27 rfl ?_
      refine xs_top (zp_of (by omega)).symm ?_
      refine k_Bi_len dX0_faults_29 kw_Bi_Bi_len (by decide) (Nat.le_of_ble_eq_true rfl) ?_
      refine xs_iadd dX0_faults_32 ?_
      refine xs_istore_n (L' := [(3, _), (2, _), (4, _), (1, _), (0, _)]) dX0_faults_33 (by decide) rfl ?_
      refine xs_iinc_n (L' := [(4, _), (3, _), (2, _), (1, _), (0, _)]) 2 dX0_faults_34 rfl (by decide) rfl ?_
      refine xs_goto (t := 7) dX0_faults_37 (by decide) ?_
      refine xs_sub (L' := [(4, _), (3, _), (2, _), (1, _), (0, _)]) [0, 1, 2, 3, 4] rfl ?_
      exact ih _ _ _ (by omega) hX
set_option maxHeartbeats 4000000 in
set_option maxRecDepth 100000 in
theorem c_Bi_faults (ad : Nat → Nat) (cA : ClassId) (s : zT) (c : Int32) (hr : rok s) : xct cA yX0_faults cX0_faults 5 (some .int) R_Bi_faults [.ref (ad 1), .int c] (wd ad cA s) (some (.int (mBi_faults s c))) (wd ad cA (s)) := by
  refine xct_of (own := RX0) (by decide) rfl (Nat.le_of_ble_eq_true rfl) (fun X hX => ?_)
  show xs X cA RX0 cX0_faults 5 (some .int) R_Bi_faults (wd ad cA s) 0 0 0 [(0, .ref (ad 1)), (1, .int c)] []
  refine xs_iconst (v := 0) dX0_faults_0 (by decide) ?_
  refine xs_istore_n (L' := [(2, _), (0, _), (1, _)]) dX0_faults_1 (by decide) rfl ?_
  refine xs_iconst (v := 0) dX0_faults_2 (by decide) ?_
  refine xs_istore_n (L' := [(3, _), (2, _), (0, _), (1, _)]) dX0_faults_3 (by decide) rfl ?_
  refine xs_iconst (v := nI 0) dX0_faults_4 rfl ?_
  refine xs_istore (L' := [(4, _), (3, _), (2, _), (0, _), (1, _)]) dX0_faults_5 (by decide) rfl ?_
  refine xs_sub (L' := [(4, _), (3, _), (2, _), (1, _), (0, _)]) [0, 1, 2, 4, 3] rfl ?_
  exact t_Bi_f0 hr _ 0 _ _ (Nat.zero_add _) hX
theorem k_Bi_faults {X : xz_X} {cA : ClassId} {own : String} {ad : Nat → Nat} {cc : ByteArray} {nL : Nat} {ret : Option FieldType} {R : Room} {s : zT} {pc ix : Nat} {L : List (Nat × Value)} {st : List Value} {c : Int32} (d : decode cc pc = .ok (.invokevirtual ix, 3)) (hw : xwV own ix yX0_faults cX0_faults 5 (some .int) 1) (hR : xroom R_Bi_faults 5 R) (hst : (st.map fun v => v.category).sum ≤ 8) (hr : rok s) (kk : xs X cA own cc nL ret R (wd ad cA (s)) 0 0 (pc + 3) L (.int (mBi_faults s c) :: st)) : xs X cA own cc nL ret R (wd ad cA s) 0 0 pc L (.int c :: .ref (ad 1) :: st) :=
  xs_call 1 (c_Bi_faults ad cA s c hr) rfl rfl d hw hR rfl rfl rfl hst ⟨Nat.zero_le _, Nat.zero_le _⟩ kk
end
section
theorem dX3_init_0 : decode cX3_init 0 = .ok (.aload_n 0, 1) := by decide +kernel
theorem dX3_init_1 : decode cX3_init 1 = .ok (.invokespecial 3, 3) := by decide +kernel
theorem dX3_init_4 : decode cX3_init 4 = .ok (.aload_n 0, 1) := by decide +kernel
theorem dX3_init_5 : decode cX3_init 5 = .ok (.new 9, 3) := by decide +kernel
theorem dX3_init_8 : decode cX3_init 8 = .ok (.dup, 1) := by decide +kernel
theorem dX3_init_9 : decode cX3_init 9 = .ok (.invokespecial 11, 3) := by decide +kernel
theorem dX3_init_12 : decode cX3_init 12 = .ok (.putfield 12, 3) := by decide +kernel
theorem dX3_init_15 : decode cX3_init 15 = .ok (.aload_n 0, 1) := by decide +kernel
theorem dX3_init_16 : decode cX3_init 16 = .ok (.new 16, 3) := by decide +kernel
theorem dX3_init_19 : decode cX3_init 19 = .ok (.dup, 1) := by decide +kernel
theorem dX3_init_20 : decode cX3_init 20 = .ok (.invokespecial 18, 3) := by decide +kernel
theorem dX3_init_23 : decode cX3_init 23 = .ok (.putfield 19, 3) := by decide +kernel
theorem dX3_init_26 : decode cX3_init 26 = .ok (.aload_n 0, 1) := by decide +kernel
theorem dX3_init_27 : decode cX3_init 27 = .ok (.sipush 2002, 3) := by decide +kernel
theorem dX3_init_30 : decode cX3_init 30 = .ok (.newarray .int, 2) := by decide +kernel
theorem dX3_init_32 : decode cX3_init 32 = .ok (.putfield 23, 3) := by decide +kernel
theorem dX3_init_35 : decode cX3_init 35 = .ok (.aload_n 0, 1) := by decide +kernel
theorem dX3_init_36 : decode cX3_init 36 = .ok (.iconst 0, 1) := by decide +kernel
theorem dX3_init_37 : decode cX3_init 37 = .ok (.putfield 27, 3) := by decide +kernel
theorem dX3_init_40 : decode cX3_init 40 = .ok (.aload_n 0, 1) := by decide +kernel
theorem dX3_init_41 : decode cX3_init 41 = .ok (.iconst 0, 1) := by decide +kernel
theorem dX3_init_42 : decode cX3_init 42 = .ok (.putfield 31, 3) := by decide +kernel
theorem dX3_init_45 : decode cX3_init 45 = .ok (.return_, 1) := by decide +kernel
theorem dX3_make_0 : decode cX3_make 0 = .ok (.iload_n 1, 1) := by decide +kernel
theorem dX3_make_1 : decode cX3_make 1 = .ok (.iload_n 3, 1) := by decide +kernel
theorem dX3_make_2 : decode cX3_make 2 = .ok (.invokestatic 34, 3) := by decide +kernel
theorem dX3_make_5 : decode cX3_make 5 = .ok (.ifCond .eq 12, 3) := by decide +kernel
theorem dX3_make_8 : decode cX3_make 8 = .ok (.iload_n 2, 1) := by decide +kernel
theorem dX3_make_9 : decode cX3_make 9 = .ok (.ifCond .lt 8, 3) := by decide +kernel
theorem dX3_make_12 : decode cX3_make 12 = .ok (.iload_n 2, 1) := by decide +kernel
theorem dX3_make_13 : decode cX3_make 13 = .ok (.iconst 2, 1) := by decide +kernel
theorem dX3_make_14 : decode cX3_make 14 = .ok (.if_icmp .le 11, 3) := by decide +kernel
theorem dX3_make_17 : decode cX3_make 17 = .ok (.new 38, 3) := by decide +kernel
theorem dX3_make_20 : decode cX3_make 20 = .ok (.dup, 1) := by decide +kernel
theorem dX3_make_21 : decode cX3_make 21 = .ok (.invokespecial 40, 3) := by decide +kernel
theorem dX3_make_24 : decode cX3_make 24 = .ok (.athrow, 1) := by decide +kernel
theorem dX3_make_25 : decode cX3_make 25 = .ok (.aload_n 0, 1) := by decide +kernel
theorem dX3_make_26 : decode cX3_make 26 = .ok (.getfield 19, 3) := by decide +kernel
theorem dX3_make_29 : decode cX3_make 29 = .ok (.invokevirtual 41, 3) := by decide +kernel
theorem dX3_make_32 : decode cX3_make 32 = .ok (.istore 4, 2) := by decide +kernel
theorem dX3_make_34 : decode cX3_make 34 = .ok (.aload_n 0, 1) := by decide +kernel
theorem dX3_make_35 : decode cX3_make 35 = .ok (.getfield 19, 3) := by decide +kernel
theorem dX3_make_38 : decode cX3_make 38 = .ok (.invokevirtual 45, 3) := by decide +kernel
theorem dX3_make_41 : decode cX3_make 41 = .ok (.aload_n 0, 1) := by decide +kernel
theorem dX3_make_42 : decode cX3_make 42 = .ok (.getfield 12, 3) := by decide +kernel
theorem dX3_make_45 : decode cX3_make 45 = .ok (.iload_n 2, 1) := by decide +kernel
theorem dX3_make_46 : decode cX3_make 46 = .ok (.invokevirtual 48, 3) := by decide +kernel
theorem dX3_make_49 : decode cX3_make 49 = .ok (.aload_n 0, 1) := by decide +kernel
theorem dX3_make_50 : decode cX3_make 50 = .ok (.iload_n 1, 1) := by decide +kernel
theorem dX3_make_51 : decode cX3_make 51 = .ok (.putfield 27, 3) := by decide +kernel
theorem dX3_make_54 : decode cX3_make 54 = .ok (.aload_n 0, 1) := by decide +kernel
theorem dX3_make_55 : decode cX3_make 55 = .ok (.iload_n 3, 1) := by decide +kernel
theorem dX3_make_56 : decode cX3_make 56 = .ok (.putfield 31, 3) := by decide +kernel
theorem dX3_make_59 : decode cX3_make 59 = .ok (.iload 4, 2) := by decide +kernel
theorem dX3_make_61 : decode cX3_make 61 = .ok (.ireturn, 1) := by decide +kernel
theorem dX3_put_0 : decode cX3_put 0 = .ok (.aload_n 0, 1) := by decide +kernel
theorem dX3_put_1 : decode cX3_put 1 = .ok (.getfield 12, 3) := by decide +kernel
theorem dX3_put_4 : decode cX3_put 4 = .ok (.iload_n 1, 1) := by decide +kernel
theorem dX3_put_5 : decode cX3_put 5 = .ok (.invokevirtual 52, 3) := by decide +kernel
theorem dX3_put_8 : decode cX3_put 8 = .ok (.istore_n 3, 1) := by decide +kernel
theorem dX3_put_9 : decode cX3_put 9 = .ok (.aload_n 0, 1) := by decide +kernel
theorem dX3_put_10 : decode cX3_put 10 = .ok (.iload_n 3, 1) := by decide +kernel
theorem dX3_put_11 : decode cX3_put 11 = .ok (.invokevirtual 56, 3) := by decide +kernel
theorem dX3_put_14 : decode cX3_put 14 = .ok (.ifCond .ne 11, 3) := by decide +kernel
theorem dX3_put_17 : decode cX3_put 17 = .ok (.new 60, 3) := by decide +kernel
theorem dX3_put_20 : decode cX3_put 20 = .ok (.dup, 1) := by decide +kernel
theorem dX3_put_21 : decode cX3_put 21 = .ok (.invokespecial 62, 3) := by decide +kernel
theorem dX3_put_24 : decode cX3_put 24 = .ok (.athrow, 1) := by decide +kernel
theorem dX3_put_25 : decode cX3_put 25 = .ok (.iload_n 3, 1) := by decide +kernel
theorem dX3_put_26 : decode cX3_put 26 = .ok (.ifCond .ne 13, 3) := by decide +kernel
theorem dX3_put_29 : decode cX3_put 29 = .ok (.aload_n 0, 1) := by decide +kernel
theorem dX3_put_30 : decode cX3_put 30 = .ok (.iload_n 1, 1) := by decide +kernel
theorem dX3_put_31 : decode cX3_put 31 = .ok (.iload_n 2, 1) := by decide +kernel
theorem dX3_put_32 : decode cX3_put 32 = .ok (.invokevirtual 63, 3) := by decide +kernel
theorem dX3_put_35 : decode cX3_put 35 = .ok (.ldc2_w 67, 3) := by decide +kernel
theorem dX3_put_38 : decode cX3_put 38 = .ok (.lreturn, 1) := by decide +kernel
theorem dX3_put_39 : decode cX3_put 39 = .ok (.aload_n 0, 1) := by decide +kernel
theorem dX3_put_40 : decode cX3_put 40 = .ok (.getfield 23, 3) := by decide +kernel
theorem dX3_put_43 : decode cX3_put 43 = .ok (.iload_n 3, 1) := by decide +kernel
theorem dX3_put_44 : decode cX3_put 44 = .ok (.iaload, 1) := by decide +kernel
theorem dX3_put_45 : decode cX3_put 45 = .ok (.istore 4, 2) := by decide +kernel
theorem dX3_put_47 : decode cX3_put 47 = .ok (.aload_n 0, 1) := by decide +kernel
theorem dX3_put_48 : decode cX3_put 48 = .ok (.iload_n 3, 1) := by decide +kernel
theorem dX3_put_49 : decode cX3_put 49 = .ok (.iload_n 2, 1) := by decide +kernel
theorem dX3_put_50 : decode cX3_put 50 = .ok (.invokevirtual 69, 3) := by decide +kernel
theorem dX3_put_53 : decode cX3_put 53 = .ok (.iload 4, 2) := by decide +kernel
theorem dX3_put_55 : decode cX3_put 55 = .ok (.i2l, 1) := by decide +kernel
theorem dX3_put_56 : decode cX3_put 56 = .ok (.lreturn, 1) := by decide +kernel
theorem dX3_find_0 : decode cX3_find 0 = .ok (.aload_n 0, 1) := by decide +kernel
theorem dX3_find_1 : decode cX3_find 1 = .ok (.getfield 12, 3) := by decide +kernel
theorem dX3_find_4 : decode cX3_find 4 = .ok (.iload_n 1, 1) := by decide +kernel
theorem dX3_find_5 : decode cX3_find 5 = .ok (.invokevirtual 52, 3) := by decide +kernel
theorem dX3_find_8 : decode cX3_find 8 = .ok (.istore_n 3, 1) := by decide +kernel
theorem dX3_find_9 : decode cX3_find 9 = .ok (.iload_n 3, 1) := by decide +kernel
theorem dX3_find_10 : decode cX3_find 10 = .ok (.ifCond .ne 11, 3) := by decide +kernel
theorem dX3_find_13 : decode cX3_find 13 = .ok (.new 72, 3) := by decide +kernel
theorem dX3_find_16 : decode cX3_find 16 = .ok (.dup, 1) := by decide +kernel
theorem dX3_find_17 : decode cX3_find 17 = .ok (.invokespecial 74, 3) := by decide +kernel
theorem dX3_find_20 : decode cX3_find 20 = .ok (.athrow, 1) := by decide +kernel
theorem dX3_find_21 : decode cX3_find 21 = .ok (.aload_n 0, 1) := by decide +kernel
theorem dX3_find_22 : decode cX3_find 22 = .ok (.getfield 23, 3) := by decide +kernel
theorem dX3_find_25 : decode cX3_find 25 = .ok (.iload_n 3, 1) := by decide +kernel
theorem dX3_find_26 : decode cX3_find 26 = .ok (.iaload, 1) := by decide +kernel
theorem dX3_find_27 : decode cX3_find 27 = .ok (.istore 4, 2) := by decide +kernel
theorem dX3_find_29 : decode cX3_find 29 = .ok (.iload_n 2, 1) := by decide +kernel
theorem dX3_find_30 : decode cX3_find 30 = .ok (.ifCond .eq 11, 3) := by decide +kernel
theorem dX3_find_33 : decode cX3_find 33 = .ok (.aload_n 0, 1) := by decide +kernel
theorem dX3_find_34 : decode cX3_find 34 = .ok (.iload_n 3, 1) := by decide +kernel
theorem dX3_find_35 : decode cX3_find 35 = .ok (.invokevirtual 75, 3) := by decide +kernel
theorem dX3_find_38 : decode cX3_find 38 = .ok (.goto 8, 3) := by decide +kernel
theorem dX3_find_41 : decode cX3_find 41 = .ok (.aload_n 0, 1) := by decide +kernel
theorem dX3_find_42 : decode cX3_find 42 = .ok (.iload_n 3, 1) := by decide +kernel
theorem dX3_find_43 : decode cX3_find 43 = .ok (.invokevirtual 78, 3) := by decide +kernel
theorem dX3_find_46 : decode cX3_find 46 = .ok (.iload 4, 2) := by decide +kernel
theorem dX3_find_48 : decode cX3_find 48 = .ok (.ireturn, 1) := by decide +kernel
theorem dX3_has_0 : decode cX3_has 0 = .ok (.aload_n 0, 1) := by decide +kernel
theorem dX3_has_1 : decode cX3_has 1 = .ok (.getfield 12, 3) := by decide +kernel
theorem dX3_has_4 : decode cX3_has 4 = .ok (.iload_n 1, 1) := by decide +kernel
theorem dX3_has_5 : decode cX3_has 5 = .ok (.invokevirtual 52, 3) := by decide +kernel
theorem dX3_has_8 : decode cX3_has 8 = .ok (.ifCond .eq 7, 3) := by decide +kernel
theorem dX3_has_11 : decode cX3_has 11 = .ok (.iconst 1, 1) := by decide +kernel
theorem dX3_has_12 : decode cX3_has 12 = .ok (.goto 4, 3) := by decide +kernel
theorem dX3_has_15 : decode cX3_has 15 = .ok (.iconst 0, 1) := by decide +kernel
theorem dX3_has_16 : decode cX3_has 16 = .ok (.ireturn, 1) := by decide +kernel
theorem dX3_fill_0 : decode cX3_fill 0 = .ok (.iload_n 3, 1) := by decide +kernel
theorem dX3_fill_1 : decode cX3_fill 1 = .ok (.ifCond .lt 10, 3) := by decide +kernel
theorem dX3_fill_4 : decode cX3_fill 4 = .ok (.iload_n 3, 1) := by decide +kernel
theorem dX3_fill_5 : decode cX3_fill 5 = .ok (.sipush 2000, 3) := by decide +kernel
theorem dX3_fill_8 : decode cX3_fill 8 = .ok (.if_icmp .le 11, 3) := by decide +kernel
theorem dX3_fill_11 : decode cX3_fill 11 = .ok (.new 38, 3) := by decide +kernel
theorem dX3_fill_14 : decode cX3_fill 14 = .ok (.dup, 1) := by decide +kernel
theorem dX3_fill_15 : decode cX3_fill 15 = .ok (.invokespecial 40, 3) := by decide +kernel
theorem dX3_fill_18 : decode cX3_fill 18 = .ok (.athrow, 1) := by decide +kernel
theorem dX3_fill_19 : decode cX3_fill 19 = .ok (.iload_n 1, 1) := by decide +kernel
theorem dX3_fill_20 : decode cX3_fill 20 = .ok (.istore 4, 2) := by decide +kernel
theorem dX3_fill_22 : decode cX3_fill 22 = .ok (.iconst 0, 1) := by decide +kernel
theorem dX3_fill_23 : decode cX3_fill 23 = .ok (.istore 5, 2) := by decide +kernel
theorem dX3_fill_25 : decode cX3_fill 25 = .ok (.iload 5, 2) := by decide +kernel
theorem dX3_fill_27 : decode cX3_fill 27 = .ok (.iload_n 3, 1) := by decide +kernel
theorem dX3_fill_28 : decode cX3_fill 28 = .ok (.if_icmp .ge 62, 3) := by decide +kernel
theorem dX3_fill_31 : decode cX3_fill 31 = .ok (.aload_n 0, 1) := by decide +kernel
theorem dX3_fill_32 : decode cX3_fill 32 = .ok (.getfield 12, 3) := by decide +kernel
theorem dX3_fill_35 : decode cX3_fill 35 = .ok (.iload 4, 2) := by decide +kernel
theorem dX3_fill_37 : decode cX3_fill 37 = .ok (.invokevirtual 52, 3) := by decide +kernel
theorem dX3_fill_40 : decode cX3_fill 40 = .ok (.istore 6, 2) := by decide +kernel
theorem dX3_fill_42 : decode cX3_fill 42 = .ok (.aload_n 0, 1) := by decide +kernel
theorem dX3_fill_43 : decode cX3_fill 43 = .ok (.iload 6, 2) := by decide +kernel
theorem dX3_fill_45 : decode cX3_fill 45 = .ok (.invokevirtual 56, 3) := by decide +kernel
theorem dX3_fill_48 : decode cX3_fill 48 = .ok (.ifCond .ne 6, 3) := by decide +kernel
theorem dX3_fill_51 : decode cX3_fill 51 = .ok (.goto 39, 3) := by decide +kernel
theorem dX3_fill_54 : decode cX3_fill 54 = .ok (.iload 6, 2) := by decide +kernel
theorem dX3_fill_56 : decode cX3_fill 56 = .ok (.ifCond .ne 14, 3) := by decide +kernel
theorem dX3_fill_59 : decode cX3_fill 59 = .ok (.aload_n 0, 1) := by decide +kernel
theorem dX3_fill_60 : decode cX3_fill 60 = .ok (.iload 4, 2) := by decide +kernel
theorem dX3_fill_62 : decode cX3_fill 62 = .ok (.iload 5, 2) := by decide +kernel
theorem dX3_fill_64 : decode cX3_fill 64 = .ok (.invokevirtual 63, 3) := by decide +kernel
theorem dX3_fill_67 : decode cX3_fill 67 = .ok (.goto 11, 3) := by decide +kernel
theorem dX3_fill_70 : decode cX3_fill 70 = .ok (.aload_n 0, 1) := by decide +kernel
theorem dX3_fill_71 : decode cX3_fill 71 = .ok (.iload 6, 2) := by decide +kernel
theorem dX3_fill_73 : decode cX3_fill 73 = .ok (.iload 5, 2) := by decide +kernel
theorem dX3_fill_75 : decode cX3_fill 75 = .ok (.invokevirtual 69, 3) := by decide +kernel
theorem dX3_fill_78 : decode cX3_fill 78 = .ok (.iload 4, 2) := by decide +kernel
theorem dX3_fill_80 : decode cX3_fill 80 = .ok (.iload_n 2, 1) := by decide +kernel
theorem dX3_fill_81 : decode cX3_fill 81 = .ok (.iadd, 1) := by decide +kernel
theorem dX3_fill_82 : decode cX3_fill 82 = .ok (.istore 4, 2) := by decide +kernel
theorem dX3_fill_84 : decode cX3_fill 84 = .ok (.iinc 5 1, 3) := by decide +kernel
theorem dX3_fill_87 : decode cX3_fill 87 = .ok (.goto (-62), 3) := by decide +kernel
theorem dX3_fill_90 : decode cX3_fill 90 = .ok (.aload_n 0, 1) := by decide +kernel
theorem dX3_fill_91 : decode cX3_fill 91 = .ok (.getfield 19, 3) := by decide +kernel
theorem dX3_fill_94 : decode cX3_fill 94 = .ok (.invokevirtual 41, 3) := by decide +kernel
theorem dX3_fill_97 : decode cX3_fill 97 = .ok (.ireturn, 1) := by decide +kernel
theorem dX3_at_0 : decode cX3_at 0 = .ok (.iload_n 1, 1) := by decide +kernel
theorem dX3_at_1 : decode cX3_at 1 = .ok (.ifCond .lt 14, 3) := by decide +kernel
theorem dX3_at_4 : decode cX3_at 4 = .ok (.iload_n 1, 1) := by decide +kernel
theorem dX3_at_5 : decode cX3_at 5 = .ok (.aload_n 0, 1) := by decide +kernel
theorem dX3_at_6 : decode cX3_at 6 = .ok (.getfield 19, 3) := by decide +kernel
theorem dX3_at_9 : decode cX3_at 9 = .ok (.invokevirtual 41, 3) := by decide +kernel
theorem dX3_at_12 : decode cX3_at 12 = .ok (.if_icmp .lt 11, 3) := by decide +kernel
theorem dX3_at_15 : decode cX3_at 15 = .ok (.new 72, 3) := by decide +kernel
theorem dX3_at_18 : decode cX3_at 18 = .ok (.dup, 1) := by decide +kernel
theorem dX3_at_19 : decode cX3_at 19 = .ok (.invokespecial 74, 3) := by decide +kernel
theorem dX3_at_22 : decode cX3_at 22 = .ok (.athrow, 1) := by decide +kernel
theorem dX3_at_23 : decode cX3_at 23 = .ok (.aload_n 0, 1) := by decide +kernel
theorem dX3_at_24 : decode cX3_at 24 = .ok (.invokevirtual 81, 3) := by decide +kernel
theorem dX3_at_27 : decode cX3_at 27 = .ok (.istore_n 2, 1) := by decide +kernel
theorem dX3_at_28 : decode cX3_at 28 = .ok (.iconst 0, 1) := by decide +kernel
theorem dX3_at_29 : decode cX3_at 29 = .ok (.istore_n 3, 1) := by decide +kernel
theorem dX3_at_30 : decode cX3_at 30 = .ok (.iload_n 3, 1) := by decide +kernel
theorem dX3_at_31 : decode cX3_at 31 = .ok (.iload_n 1, 1) := by decide +kernel
theorem dX3_at_32 : decode cX3_at 32 = .ok (.if_icmp .ge 15, 3) := by decide +kernel
theorem dX3_at_35 : decode cX3_at 35 = .ok (.aload_n 0, 1) := by decide +kernel
theorem dX3_at_36 : decode cX3_at 36 = .ok (.iload_n 2, 1) := by decide +kernel
theorem dX3_at_37 : decode cX3_at 37 = .ok (.invokevirtual 84, 3) := by decide +kernel
theorem dX3_at_40 : decode cX3_at 40 = .ok (.istore_n 2, 1) := by decide +kernel
theorem dX3_at_41 : decode cX3_at 41 = .ok (.iinc 3 1, 3) := by decide +kernel
theorem dX3_at_44 : decode cX3_at 44 = .ok (.goto (-14), 3) := by decide +kernel
theorem dX3_at_47 : decode cX3_at 47 = .ok (.aload_n 0, 1) := by decide +kernel
theorem dX3_at_48 : decode cX3_at 48 = .ok (.getfield 12, 3) := by decide +kernel
theorem dX3_at_51 : decode cX3_at 51 = .ok (.iload_n 2, 1) := by decide +kernel
theorem dX3_at_52 : decode cX3_at 52 = .ok (.invokevirtual 87, 3) := by decide +kernel
theorem dX3_at_55 : decode cX3_at 55 = .ok (.ireturn, 1) := by decide +kernel
theorem dX3_after_0 : decode cX3_after 0 = .ok (.aload_n 0, 1) := by decide +kernel
theorem dX3_after_1 : decode cX3_after 1 = .ok (.getfield 12, 3) := by decide +kernel
theorem dX3_after_4 : decode cX3_after 4 = .ok (.iload_n 1, 1) := by decide +kernel
theorem dX3_after_5 : decode cX3_after 5 = .ok (.invokevirtual 52, 3) := by decide +kernel
theorem dX3_after_8 : decode cX3_after 8 = .ok (.istore_n 2, 1) := by decide +kernel
theorem dX3_after_9 : decode cX3_after 9 = .ok (.iload_n 2, 1) := by decide +kernel
theorem dX3_after_10 : decode cX3_after 10 = .ok (.ifCond .ne 7, 3) := by decide +kernel
theorem dX3_after_13 : decode cX3_after 13 = .ok (.iconst 0, 1) := by decide +kernel
theorem dX3_after_14 : decode cX3_after 14 = .ok (.goto 8, 3) := by decide +kernel
theorem dX3_after_17 : decode cX3_after 17 = .ok (.aload_n 0, 1) := by decide +kernel
theorem dX3_after_18 : decode cX3_after 18 = .ok (.iload_n 2, 1) := by decide +kernel
theorem dX3_after_19 : decode cX3_after 19 = .ok (.invokevirtual 84, 3) := by decide +kernel
theorem dX3_after_22 : decode cX3_after 22 = .ok (.istore_n 3, 1) := by decide +kernel
theorem dX3_after_23 : decode cX3_after 23 = .ok (.iload_n 3, 1) := by decide +kernel
theorem dX3_after_24 : decode cX3_after 24 = .ok (.ifCond .ne 11, 3) := by decide +kernel
theorem dX3_after_27 : decode cX3_after 27 = .ok (.new 72, 3) := by decide +kernel
theorem dX3_after_30 : decode cX3_after 30 = .ok (.dup, 1) := by decide +kernel
theorem dX3_after_31 : decode cX3_after 31 = .ok (.invokespecial 74, 3) := by decide +kernel
theorem dX3_after_34 : decode cX3_after 34 = .ok (.athrow, 1) := by decide +kernel
theorem dX3_after_35 : decode cX3_after 35 = .ok (.aload_n 0, 1) := by decide +kernel
theorem dX3_after_36 : decode cX3_after 36 = .ok (.getfield 12, 3) := by decide +kernel
theorem dX3_after_39 : decode cX3_after 39 = .ok (.iload_n 3, 1) := by decide +kernel
theorem dX3_after_40 : decode cX3_after 40 = .ok (.invokevirtual 87, 3) := by decide +kernel
theorem dX3_after_43 : decode cX3_after 43 = .ok (.ireturn, 1) := by decide +kernel
theorem dX3_size_0 : decode cX3_size 0 = .ok (.aload_n 0, 1) := by decide +kernel
theorem dX3_size_1 : decode cX3_size 1 = .ok (.getfield 19, 3) := by decide +kernel
theorem dX3_size_4 : decode cX3_size 4 = .ok (.invokevirtual 41, 3) := by decide +kernel
theorem dX3_size_7 : decode cX3_size 7 = .ok (.ireturn, 1) := by decide +kernel
theorem dX3_clear_0 : decode cX3_clear 0 = .ok (.aload_n 0, 1) := by decide +kernel
theorem dX3_clear_1 : decode cX3_clear 1 = .ok (.getfield 19, 3) := by decide +kernel
theorem dX3_clear_4 : decode cX3_clear 4 = .ok (.invokevirtual 41, 3) := by decide +kernel
theorem dX3_clear_7 : decode cX3_clear 7 = .ok (.istore_n 1, 1) := by decide +kernel
theorem dX3_clear_8 : decode cX3_clear 8 = .ok (.aload_n 0, 1) := by decide +kernel
theorem dX3_clear_9 : decode cX3_clear 9 = .ok (.getfield 19, 3) := by decide +kernel
theorem dX3_clear_12 : decode cX3_clear 12 = .ok (.invokevirtual 45, 3) := by decide +kernel
theorem dX3_clear_15 : decode cX3_clear 15 = .ok (.aload_n 0, 1) := by decide +kernel
theorem dX3_clear_16 : decode cX3_clear 16 = .ok (.getfield 12, 3) := by decide +kernel
theorem dX3_clear_19 : decode cX3_clear 19 = .ok (.invokevirtual 90, 3) := by decide +kernel
theorem dX3_clear_22 : decode cX3_clear 22 = .ok (.iload_n 1, 1) := by decide +kernel
theorem dX3_clear_23 : decode cX3_clear 23 = .ok (.ireturn, 1) := by decide +kernel
theorem dX3_hash_0 : decode cX3_hash 0 = .ok (.iconst 1, 1) := by decide +kernel
theorem dX3_hash_1 : decode cX3_hash 1 = .ok (.istore_n 1, 1) := by decide +kernel
theorem dX3_hash_2 : decode cX3_hash 2 = .ok (.aload_n 0, 1) := by decide +kernel
theorem dX3_hash_3 : decode cX3_hash 3 = .ok (.invokevirtual 81, 3) := by decide +kernel
theorem dX3_hash_6 : decode cX3_hash 6 = .ok (.istore_n 2, 1) := by decide +kernel
theorem dX3_hash_7 : decode cX3_hash 7 = .ok (.iconst 0, 1) := by decide +kernel
theorem dX3_hash_8 : decode cX3_hash 8 = .ok (.istore_n 3, 1) := by decide +kernel
theorem dX3_hash_9 : decode cX3_hash 9 = .ok (.iload_n 3, 1) := by decide +kernel
theorem dX3_hash_10 : decode cX3_hash 10 = .ok (.aload_n 0, 1) := by decide +kernel
theorem dX3_hash_11 : decode cX3_hash 11 = .ok (.getfield 19, 3) := by decide +kernel
theorem dX3_hash_14 : decode cX3_hash 14 = .ok (.invokevirtual 41, 3) := by decide +kernel
theorem dX3_hash_17 : decode cX3_hash 17 = .ok (.if_icmp .ge 41, 3) := by decide +kernel
theorem dX3_hash_20 : decode cX3_hash 20 = .ok (.bipush 31, 2) := by decide +kernel
theorem dX3_hash_22 : decode cX3_hash 22 = .ok (.iload_n 1, 1) := by decide +kernel
theorem dX3_hash_23 : decode cX3_hash 23 = .ok (.imul, 1) := by decide +kernel
theorem dX3_hash_24 : decode cX3_hash 24 = .ok (.aload_n 0, 1) := by decide +kernel
theorem dX3_hash_25 : decode cX3_hash 25 = .ok (.getfield 12, 3) := by decide +kernel
theorem dX3_hash_28 : decode cX3_hash 28 = .ok (.iload_n 2, 1) := by decide +kernel
theorem dX3_hash_29 : decode cX3_hash 29 = .ok (.invokevirtual 87, 3) := by decide +kernel
theorem dX3_hash_32 : decode cX3_hash 32 = .ok (.iadd, 1) := by decide +kernel
theorem dX3_hash_33 : decode cX3_hash 33 = .ok (.istore_n 1, 1) := by decide +kernel
theorem dX3_hash_34 : decode cX3_hash 34 = .ok (.bipush 31, 2) := by decide +kernel
theorem dX3_hash_36 : decode cX3_hash 36 = .ok (.iload_n 1, 1) := by decide +kernel
theorem dX3_hash_37 : decode cX3_hash 37 = .ok (.imul, 1) := by decide +kernel
theorem dX3_hash_38 : decode cX3_hash 38 = .ok (.aload_n 0, 1) := by decide +kernel
theorem dX3_hash_39 : decode cX3_hash 39 = .ok (.getfield 23, 3) := by decide +kernel
theorem dX3_hash_42 : decode cX3_hash 42 = .ok (.iload_n 2, 1) := by decide +kernel
theorem dX3_hash_43 : decode cX3_hash 43 = .ok (.iaload, 1) := by decide +kernel
theorem dX3_hash_44 : decode cX3_hash 44 = .ok (.iadd, 1) := by decide +kernel
theorem dX3_hash_45 : decode cX3_hash 45 = .ok (.istore_n 1, 1) := by decide +kernel
theorem dX3_hash_46 : decode cX3_hash 46 = .ok (.aload_n 0, 1) := by decide +kernel
theorem dX3_hash_47 : decode cX3_hash 47 = .ok (.iload_n 2, 1) := by decide +kernel
theorem dX3_hash_48 : decode cX3_hash 48 = .ok (.invokevirtual 84, 3) := by decide +kernel
theorem dX3_hash_51 : decode cX3_hash 51 = .ok (.istore_n 2, 1) := by decide +kernel
theorem dX3_hash_52 : decode cX3_hash 52 = .ok (.iinc 3 1, 3) := by decide +kernel
theorem dX3_hash_55 : decode cX3_hash 55 = .ok (.goto (-46), 3) := by decide +kernel
theorem dX3_hash_58 : decode cX3_hash 58 = .ok (.iload_n 1, 1) := by decide +kernel
theorem dX3_hash_59 : decode cX3_hash 59 = .ok (.ireturn, 1) := by decide +kernel
theorem dX3_wrong_0 : decode cX3_wrong 0 = .ok (.aload_n 0, 1) := by decide +kernel
theorem dX3_wrong_1 : decode cX3_wrong 1 = .ok (.getfield 19, 3) := by decide +kernel
theorem dX3_wrong_4 : decode cX3_wrong 4 = .ok (.invokevirtual 91, 3) := by decide +kernel
theorem dX3_wrong_7 : decode cX3_wrong 7 = .ok (.aload_n 0, 1) := by decide +kernel
theorem dX3_wrong_8 : decode cX3_wrong 8 = .ok (.getfield 12, 3) := by decide +kernel
theorem dX3_wrong_11 : decode cX3_wrong 11 = .ok (.aload_n 0, 1) := by decide +kernel
theorem dX3_wrong_12 : decode cX3_wrong 12 = .ok (.getfield 19, 3) := by decide +kernel
theorem dX3_wrong_15 : decode cX3_wrong 15 = .ok (.invokevirtual 41, 3) := by decide +kernel
theorem dX3_wrong_18 : decode cX3_wrong 18 = .ok (.invokevirtual 94, 3) := by decide +kernel
theorem dX3_wrong_21 : decode cX3_wrong 21 = .ok (.iadd, 1) := by decide +kernel
theorem dX3_wrong_22 : decode cX3_wrong 22 = .ok (.istore_n 1, 1) := by decide +kernel
theorem dX3_wrong_23 : decode cX3_wrong 23 = .ok (.aload_n 0, 1) := by decide +kernel
theorem dX3_wrong_24 : decode cX3_wrong 24 = .ok (.getfield 27, 3) := by decide +kernel
theorem dX3_wrong_27 : decode cX3_wrong 27 = .ok (.iconst 2, 1) := by decide +kernel
theorem dX3_wrong_28 : decode cX3_wrong 28 = .ok (.if_icmp .ne 10, 3) := by decide +kernel
theorem dX3_wrong_31 : decode cX3_wrong 31 = .ok (.aload_n 0, 1) := by decide +kernel
theorem dX3_wrong_32 : decode cX3_wrong 32 = .ok (.getfield 31, 3) := by decide +kernel
theorem dX3_wrong_35 : decode cX3_wrong 35 = .ok (.goto 6, 3) := by decide +kernel
theorem dX3_wrong_38 : decode cX3_wrong 38 = .ok (.sipush 2000, 3) := by decide +kernel
theorem dX3_wrong_41 : decode cX3_wrong 41 = .ok (.istore_n 2, 1) := by decide +kernel
theorem dX3_wrong_42 : decode cX3_wrong 42 = .ok (.iload_n 1, 1) := by decide +kernel
theorem dX3_wrong_43 : decode cX3_wrong 43 = .ok (.aload_n 0, 1) := by decide +kernel
theorem dX3_wrong_44 : decode cX3_wrong 44 = .ok (.invokevirtual 96, 3) := by decide +kernel
theorem dX3_wrong_47 : decode cX3_wrong 47 = .ok (.iadd, 1) := by decide +kernel
theorem dX3_wrong_48 : decode cX3_wrong 48 = .ok (.aload_n 0, 1) := by decide +kernel
theorem dX3_wrong_49 : decode cX3_wrong 49 = .ok (.getfield 19, 3) := by decide +kernel
theorem dX3_wrong_52 : decode cX3_wrong 52 = .ok (.invokevirtual 41, 3) := by decide +kernel
theorem dX3_wrong_55 : decode cX3_wrong 55 = .ok (.iload_n 2, 1) := by decide +kernel
theorem dX3_wrong_56 : decode cX3_wrong 56 = .ok (.if_icmp .le 7, 3) := by decide +kernel
theorem dX3_wrong_59 : decode cX3_wrong 59 = .ok (.iconst 1, 1) := by decide +kernel
theorem dX3_wrong_60 : decode cX3_wrong 60 = .ok (.goto 4, 3) := by decide +kernel
theorem dX3_wrong_63 : decode cX3_wrong 63 = .ok (.iconst 0, 1) := by decide +kernel
theorem dX3_wrong_64 : decode cX3_wrong 64 = .ok (.iadd, 1) := by decide +kernel
theorem dX3_wrong_65 : decode cX3_wrong 65 = .ok (.ireturn, 1) := by decide +kernel
theorem dX3_isMode_0 : decode cX3_isMode 0 = .ok (.iload_n 0, 1) := by decide +kernel
theorem dX3_isMode_1 : decode cX3_isMode 1 = .ok (.iconst 2, 1) := by decide +kernel
theorem dX3_isMode_2 : decode cX3_isMode 2 = .ok (.if_icmp .ne 21, 3) := by decide +kernel
theorem dX3_isMode_5 : decode cX3_isMode 5 = .ok (.iload_n 1, 1) := by decide +kernel
theorem dX3_isMode_6 : decode cX3_isMode 6 = .ok (.iconst 1, 1) := by decide +kernel
theorem dX3_isMode_7 : decode cX3_isMode 7 = .ok (.if_icmp .lt 14, 3) := by decide +kernel
theorem dX3_isMode_10 : decode cX3_isMode 10 = .ok (.iload_n 1, 1) := by decide +kernel
theorem dX3_isMode_11 : decode cX3_isMode 11 = .ok (.sipush 2000, 3) := by decide +kernel
theorem dX3_isMode_14 : decode cX3_isMode 14 = .ok (.if_icmp .gt 7, 3) := by decide +kernel
theorem dX3_isMode_17 : decode cX3_isMode 17 = .ok (.iconst 1, 1) := by decide +kernel
theorem dX3_isMode_18 : decode cX3_isMode 18 = .ok (.goto 4, 3) := by decide +kernel
theorem dX3_isMode_21 : decode cX3_isMode 21 = .ok (.iconst 0, 1) := by decide +kernel
theorem dX3_isMode_22 : decode cX3_isMode 22 = .ok (.ireturn, 1) := by decide +kernel
theorem dX3_isMode_23 : decode cX3_isMode 23 = .ok (.iload_n 0, 1) := by decide +kernel
theorem dX3_isMode_24 : decode cX3_isMode 24 = .ok (.ifCond .lt 16, 3) := by decide +kernel
theorem dX3_isMode_27 : decode cX3_isMode 27 = .ok (.iload_n 0, 1) := by decide +kernel
theorem dX3_isMode_28 : decode cX3_isMode 28 = .ok (.iconst 2, 1) := by decide +kernel
theorem dX3_isMode_29 : decode cX3_isMode 29 = .ok (.if_icmp .ge 11, 3) := by decide +kernel
theorem dX3_isMode_32 : decode cX3_isMode 32 = .ok (.iload_n 1, 1) := by decide +kernel
theorem dX3_isMode_33 : decode cX3_isMode 33 = .ok (.ifCond .ne 7, 3) := by decide +kernel
theorem dX3_isMode_36 : decode cX3_isMode 36 = .ok (.iconst 1, 1) := by decide +kernel
theorem dX3_isMode_37 : decode cX3_isMode 37 = .ok (.goto 4, 3) := by decide +kernel
theorem dX3_isMode_40 : decode cX3_isMode 40 = .ok (.iconst 0, 1) := by decide +kernel
theorem dX3_isMode_41 : decode cX3_isMode 41 = .ok (.ireturn, 1) := by decide +kernel
theorem dX3_fits_0 : decode cX3_fits 0 = .ok (.iload_n 1, 1) := by decide +kernel
theorem dX3_fits_1 : decode cX3_fits 1 = .ok (.ifCond .ne 24, 3) := by decide +kernel
theorem dX3_fits_4 : decode cX3_fits 4 = .ok (.aload_n 0, 1) := by decide +kernel
theorem dX3_fits_5 : decode cX3_fits 5 = .ok (.getfield 27, 3) := by decide +kernel
theorem dX3_fits_8 : decode cX3_fits 8 = .ok (.iconst 2, 1) := by decide +kernel
theorem dX3_fits_9 : decode cX3_fits 9 = .ok (.if_icmp .eq 16, 3) := by decide +kernel
theorem dX3_fits_12 : decode cX3_fits 12 = .ok (.aload_n 0, 1) := by decide +kernel
theorem dX3_fits_13 : decode cX3_fits 13 = .ok (.getfield 19, 3) := by decide +kernel
theorem dX3_fits_16 : decode cX3_fits 16 = .ok (.invokevirtual 41, 3) := by decide +kernel
theorem dX3_fits_19 : decode cX3_fits 19 = .ok (.sipush 2000, 3) := by decide +kernel
theorem dX3_fits_22 : decode cX3_fits 22 = .ok (.if_icmp .ge 7, 3) := by decide +kernel
theorem dX3_fits_25 : decode cX3_fits 25 = .ok (.iconst 1, 1) := by decide +kernel
theorem dX3_fits_26 : decode cX3_fits 26 = .ok (.goto 4, 3) := by decide +kernel
theorem dX3_fits_29 : decode cX3_fits 29 = .ok (.iconst 0, 1) := by decide +kernel
theorem dX3_fits_30 : decode cX3_fits 30 = .ok (.ireturn, 1) := by decide +kernel
theorem dX3_come_0 : decode cX3_come 0 = .ok (.aload_n 0, 1) := by decide +kernel
theorem dX3_come_1 : decode cX3_come 1 = .ok (.getfield 19, 3) := by decide +kernel
theorem dX3_come_4 : decode cX3_come 4 = .ok (.invokevirtual 99, 3) := by decide +kernel
theorem dX3_come_7 : decode cX3_come 7 = .ok (.istore_n 3, 1) := by decide +kernel
theorem dX3_come_8 : decode cX3_come 8 = .ok (.aload_n 0, 1) := by decide +kernel
theorem dX3_come_9 : decode cX3_come 9 = .ok (.getfield 23, 3) := by decide +kernel
theorem dX3_come_12 : decode cX3_come 12 = .ok (.iload_n 3, 1) := by decide +kernel
theorem dX3_come_13 : decode cX3_come 13 = .ok (.iload_n 2, 1) := by decide +kernel
theorem dX3_come_14 : decode cX3_come 14 = .ok (.iastore, 1) := by decide +kernel
theorem dX3_come_15 : decode cX3_come 15 = .ok (.aload_n 0, 1) := by decide +kernel
theorem dX3_come_16 : decode cX3_come 16 = .ok (.getfield 12, 3) := by decide +kernel
theorem dX3_come_19 : decode cX3_come 19 = .ok (.iload_n 3, 1) := by decide +kernel
theorem dX3_come_20 : decode cX3_come 20 = .ok (.iload_n 1, 1) := by decide +kernel
theorem dX3_come_21 : decode cX3_come 21 = .ok (.invokevirtual 102, 3) := by decide +kernel
theorem dX3_come_24 : decode cX3_come 24 = .ok (.aload_n 0, 1) := by decide +kernel
theorem dX3_come_25 : decode cX3_come 25 = .ok (.getfield 12, 3) := by decide +kernel
theorem dX3_come_28 : decode cX3_come 28 = .ok (.iload_n 3, 1) := by decide +kernel
theorem dX3_come_29 : decode cX3_come 29 = .ok (.invokevirtual 105, 3) := by decide +kernel
theorem dX3_come_32 : decode cX3_come 32 = .ok (.aload_n 0, 1) := by decide +kernel
theorem dX3_come_33 : decode cX3_come 33 = .ok (.getfield 12, 3) := by decide +kernel
theorem dX3_come_36 : decode cX3_come 36 = .ok (.aload_n 0, 1) := by decide +kernel
theorem dX3_come_37 : decode cX3_come 37 = .ok (.getfield 19, 3) := by decide +kernel
theorem dX3_come_40 : decode cX3_come 40 = .ok (.invokevirtual 41, 3) := by decide +kernel
theorem dX3_come_43 : decode cX3_come 43 = .ok (.invokevirtual 108, 3) := by decide +kernel
theorem dX3_come_46 : decode cX3_come 46 = .ok (.ifCond .eq 60, 3) := by decide +kernel
theorem dX3_come_49 : decode cX3_come 49 = .ok (.aload_n 0, 1) := by decide +kernel
theorem dX3_come_50 : decode cX3_come 50 = .ok (.getfield 12, 3) := by decide +kernel
theorem dX3_come_53 : decode cX3_come 53 = .ok (.invokevirtual 111, 3) := by decide +kernel
theorem dX3_come_56 : decode cX3_come 56 = .ok (.aload_n 0, 1) := by decide +kernel
theorem dX3_come_57 : decode cX3_come 57 = .ok (.getfield 19, 3) := by decide +kernel
theorem dX3_come_60 : decode cX3_come 60 = .ok (.invokevirtual 114, 3) := by decide +kernel
theorem dX3_come_63 : decode cX3_come 63 = .ok (.istore 4, 2) := by decide +kernel
theorem dX3_come_65 : decode cX3_come 65 = .ok (.iconst 0, 1) := by decide +kernel
theorem dX3_come_66 : decode cX3_come 66 = .ok (.istore 5, 2) := by decide +kernel
theorem dX3_come_68 : decode cX3_come 68 = .ok (.iload 5, 2) := by decide +kernel
theorem dX3_come_70 : decode cX3_come 70 = .ok (.aload_n 0, 1) := by decide +kernel
theorem dX3_come_71 : decode cX3_come 71 = .ok (.getfield 19, 3) := by decide +kernel
theorem dX3_come_74 : decode cX3_come 74 = .ok (.invokevirtual 41, 3) := by decide +kernel
theorem dX3_come_77 : decode cX3_come 77 = .ok (.if_icmp .ge 29, 3) := by decide +kernel
theorem dX3_come_80 : decode cX3_come 80 = .ok (.aload_n 0, 1) := by decide +kernel
theorem dX3_come_81 : decode cX3_come 81 = .ok (.getfield 12, 3) := by decide +kernel
theorem dX3_come_84 : decode cX3_come 84 = .ok (.iload 4, 2) := by decide +kernel
theorem dX3_come_86 : decode cX3_come 86 = .ok (.invokevirtual 105, 3) := by decide +kernel
theorem dX3_come_89 : decode cX3_come 89 = .ok (.aload_n 0, 1) := by decide +kernel
theorem dX3_come_90 : decode cX3_come 90 = .ok (.getfield 19, 3) := by decide +kernel
theorem dX3_come_93 : decode cX3_come 93 = .ok (.iload 4, 2) := by decide +kernel
theorem dX3_come_95 : decode cX3_come 95 = .ok (.invokevirtual 117, 3) := by decide +kernel
theorem dX3_come_98 : decode cX3_come 98 = .ok (.istore 4, 2) := by decide +kernel
theorem dX3_come_100 : decode cX3_come 100 = .ok (.iinc 5 1, 3) := by decide +kernel
theorem dX3_come_103 : decode cX3_come 103 = .ok (.goto (-35), 3) := by decide +kernel
theorem dX3_come_106 : decode cX3_come 106 = .ok (.aload_n 0, 1) := by decide +kernel
theorem dX3_come_107 : decode cX3_come 107 = .ok (.getfield 27, 3) := by decide +kernel
theorem dX3_come_110 : decode cX3_come 110 = .ok (.iconst 2, 1) := by decide +kernel
theorem dX3_come_111 : decode cX3_come 111 = .ok (.if_icmp .ne 28, 3) := by decide +kernel
theorem dX3_come_114 : decode cX3_come 114 = .ok (.aload_n 0, 1) := by decide +kernel
theorem dX3_come_115 : decode cX3_come 115 = .ok (.getfield 19, 3) := by decide +kernel
theorem dX3_come_118 : decode cX3_come 118 = .ok (.invokevirtual 41, 3) := by decide +kernel
theorem dX3_come_121 : decode cX3_come 121 = .ok (.aload_n 0, 1) := by decide +kernel
theorem dX3_come_122 : decode cX3_come 122 = .ok (.getfield 31, 3) := by decide +kernel
theorem dX3_come_125 : decode cX3_come 125 = .ok (.if_icmp .le 14, 3) := by decide +kernel
theorem dX3_come_128 : decode cX3_come 128 = .ok (.aload_n 0, 1) := by decide +kernel
theorem dX3_come_129 : decode cX3_come 129 = .ok (.aload_n 0, 1) := by decide +kernel
theorem dX3_come_130 : decode cX3_come 130 = .ok (.getfield 19, 3) := by decide +kernel
theorem dX3_come_133 : decode cX3_come 133 = .ok (.invokevirtual 114, 3) := by decide +kernel
theorem dX3_come_136 : decode cX3_come 136 = .ok (.invokevirtual 75, 3) := by decide +kernel
theorem dX3_come_139 : decode cX3_come 139 = .ok (.return_, 1) := by decide +kernel
theorem dX3_change_0 : decode cX3_change 0 = .ok (.aload_n 0, 1) := by decide +kernel
theorem dX3_change_1 : decode cX3_change 1 = .ok (.getfield 23, 3) := by decide +kernel
theorem dX3_change_4 : decode cX3_change 4 = .ok (.iload_n 1, 1) := by decide +kernel
theorem dX3_change_5 : decode cX3_change 5 = .ok (.iload_n 2, 1) := by decide +kernel
theorem dX3_change_6 : decode cX3_change 6 = .ok (.iastore, 1) := by decide +kernel
theorem dX3_change_7 : decode cX3_change 7 = .ok (.aload_n 0, 1) := by decide +kernel
theorem dX3_change_8 : decode cX3_change 8 = .ok (.iload_n 1, 1) := by decide +kernel
theorem dX3_change_9 : decode cX3_change 9 = .ok (.invokevirtual 78, 3) := by decide +kernel
theorem dX3_change_12 : decode cX3_change 12 = .ok (.return_, 1) := by decide +kernel
theorem dX3_touch_0 : decode cX3_touch 0 = .ok (.aload_n 0, 1) := by decide +kernel
theorem dX3_touch_1 : decode cX3_touch 1 = .ok (.getfield 27, 3) := by decide +kernel
theorem dX3_touch_4 : decode cX3_touch 4 = .ok (.iconst 2, 1) := by decide +kernel
theorem dX3_touch_5 : decode cX3_touch 5 = .ok (.if_icmp .ne 11, 3) := by decide +kernel
theorem dX3_touch_8 : decode cX3_touch 8 = .ok (.aload_n 0, 1) := by decide +kernel
theorem dX3_touch_9 : decode cX3_touch 9 = .ok (.getfield 19, 3) := by decide +kernel
theorem dX3_touch_12 : decode cX3_touch 12 = .ok (.iload_n 1, 1) := by decide +kernel
theorem dX3_touch_13 : decode cX3_touch 13 = .ok (.invokevirtual 120, 3) := by decide +kernel
theorem dX3_touch_16 : decode cX3_touch 16 = .ok (.return_, 1) := by decide +kernel
theorem dX3_go_0 : decode cX3_go 0 = .ok (.aload_n 0, 1) := by decide +kernel
theorem dX3_go_1 : decode cX3_go 1 = .ok (.getfield 12, 3) := by decide +kernel
theorem dX3_go_4 : decode cX3_go 4 = .ok (.iload_n 1, 1) := by decide +kernel
theorem dX3_go_5 : decode cX3_go 5 = .ok (.invokevirtual 123, 3) := by decide +kernel
theorem dX3_go_8 : decode cX3_go 8 = .ok (.aload_n 0, 1) := by decide +kernel
theorem dX3_go_9 : decode cX3_go 9 = .ok (.getfield 19, 3) := by decide +kernel
theorem dX3_go_12 : decode cX3_go 12 = .ok (.iload_n 1, 1) := by decide +kernel
theorem dX3_go_13 : decode cX3_go 13 = .ok (.invokevirtual 126, 3) := by decide +kernel
theorem dX3_go_16 : decode cX3_go 16 = .ok (.return_, 1) := by decide +kernel
theorem dX3_firstSlot_0 : decode cX3_firstSlot 0 = .ok (.aload_n 0, 1) := by decide +kernel
theorem dX3_firstSlot_1 : decode cX3_firstSlot 1 = .ok (.getfield 27, 3) := by decide +kernel
theorem dX3_firstSlot_4 : decode cX3_firstSlot 4 = .ok (.ifCond .ne 14, 3) := by decide +kernel
theorem dX3_firstSlot_7 : decode cX3_firstSlot 7 = .ok (.aload_n 0, 1) := by decide +kernel
theorem dX3_firstSlot_8 : decode cX3_firstSlot 8 = .ok (.getfield 12, 3) := by decide +kernel
theorem dX3_firstSlot_11 : decode cX3_firstSlot 11 = .ok (.iconst 0, 1) := by decide +kernel
theorem dX3_firstSlot_12 : decode cX3_firstSlot 12 = .ok (.invokevirtual 129, 3) := by decide +kernel
theorem dX3_firstSlot_15 : decode cX3_firstSlot 15 = .ok (.goto 10, 3) := by decide +kernel
theorem dX3_firstSlot_18 : decode cX3_firstSlot 18 = .ok (.aload_n 0, 1) := by decide +kernel
theorem dX3_firstSlot_19 : decode cX3_firstSlot 19 = .ok (.getfield 19, 3) := by decide +kernel
theorem dX3_firstSlot_22 : decode cX3_firstSlot 22 = .ok (.invokevirtual 114, 3) := by decide +kernel
theorem dX3_firstSlot_25 : decode cX3_firstSlot 25 = .ok (.ireturn, 1) := by decide +kernel
theorem dX3_slotBehind_0 : decode cX3_slotBehind 0 = .ok (.aload_n 0, 1) := by decide +kernel
theorem dX3_slotBehind_1 : decode cX3_slotBehind 1 = .ok (.getfield 27, 3) := by decide +kernel
theorem dX3_slotBehind_4 : decode cX3_slotBehind 4 = .ok (.ifCond .ne 14, 3) := by decide +kernel
theorem dX3_slotBehind_7 : decode cX3_slotBehind 7 = .ok (.aload_n 0, 1) := by decide +kernel
theorem dX3_slotBehind_8 : decode cX3_slotBehind 8 = .ok (.getfield 12, 3) := by decide +kernel
theorem dX3_slotBehind_11 : decode cX3_slotBehind 11 = .ok (.iload_n 1, 1) := by decide +kernel
theorem dX3_slotBehind_12 : decode cX3_slotBehind 12 = .ok (.invokevirtual 132, 3) := by decide +kernel
theorem dX3_slotBehind_15 : decode cX3_slotBehind 15 = .ok (.goto 11, 3) := by decide +kernel
theorem dX3_slotBehind_18 : decode cX3_slotBehind 18 = .ok (.aload_n 0, 1) := by decide +kernel
theorem dX3_slotBehind_19 : decode cX3_slotBehind 19 = .ok (.getfield 19, 3) := by decide +kernel
theorem dX3_slotBehind_22 : decode cX3_slotBehind 22 = .ok (.iload_n 1, 1) := by decide +kernel
theorem dX3_slotBehind_23 : decode cX3_slotBehind 23 = .ok (.invokevirtual 117, 3) := by decide +kernel
theorem dX3_slotBehind_26 : decode cX3_slotBehind 26 = .ok (.ireturn, 1) := by decide +kernel
theorem dX3_faultsBetween_0 : decode cX3_faultsBetween 0 = .ok (.iconst 0, 1) := by decide +kernel
theorem dX3_faultsBetween_1 : decode cX3_faultsBetween 1 = .ok (.istore_n 1, 1) := by decide +kernel
theorem dX3_faultsBetween_2 : decode cX3_faultsBetween 2 = .ok (.aload_n 0, 1) := by decide +kernel
theorem dX3_faultsBetween_3 : decode cX3_faultsBetween 3 = .ok (.getfield 19, 3) := by decide +kernel
theorem dX3_faultsBetween_6 : decode cX3_faultsBetween 6 = .ok (.invokevirtual 133, 3) := by decide +kernel
theorem dX3_faultsBetween_9 : decode cX3_faultsBetween 9 = .ok (.aload_n 0, 1) := by decide +kernel
theorem dX3_faultsBetween_10 : decode cX3_faultsBetween 10 = .ok (.getfield 19, 3) := by decide +kernel
theorem dX3_faultsBetween_13 : decode cX3_faultsBetween 13 = .ok (.invokevirtual 114, 3) := by decide +kernel
theorem dX3_faultsBetween_16 : decode cX3_faultsBetween 16 = .ok (.istore_n 2, 1) := by decide +kernel
theorem dX3_faultsBetween_17 : decode cX3_faultsBetween 17 = .ok (.iconst 0, 1) := by decide +kernel
theorem dX3_faultsBetween_18 : decode cX3_faultsBetween 18 = .ok (.istore_n 3, 1) := by decide +kernel
theorem dX3_faultsBetween_19 : decode cX3_faultsBetween 19 = .ok (.iload_n 3, 1) := by decide +kernel
theorem dX3_faultsBetween_20 : decode cX3_faultsBetween 20 = .ok (.aload_n 0, 1) := by decide +kernel
theorem dX3_faultsBetween_21 : decode cX3_faultsBetween 21 = .ok (.getfield 19, 3) := by decide +kernel
theorem dX3_faultsBetween_24 : decode cX3_faultsBetween 24 = .ok (.invokevirtual 41, 3) := by decide +kernel
theorem dX3_faultsBetween_27 : decode cX3_faultsBetween 27 = .ok (.if_icmp .ge 51, 3) := by decide +kernel
theorem dX3_faultsBetween_30 : decode cX3_faultsBetween 30 = .ok (.aload_n 0, 1) := by decide +kernel
theorem dX3_faultsBetween_31 : decode cX3_faultsBetween 31 = .ok (.getfield 12, 3) := by decide +kernel
theorem dX3_faultsBetween_34 : decode cX3_faultsBetween 34 = .ok (.aload_n 0, 1) := by decide +kernel
theorem dX3_faultsBetween_35 : decode cX3_faultsBetween 35 = .ok (.getfield 12, 3) := by decide +kernel
theorem dX3_faultsBetween_38 : decode cX3_faultsBetween 38 = .ok (.iload_n 2, 1) := by decide +kernel
theorem dX3_faultsBetween_39 : decode cX3_faultsBetween 39 = .ok (.invokevirtual 87, 3) := by decide +kernel
theorem dX3_faultsBetween_42 : decode cX3_faultsBetween 42 = .ok (.invokevirtual 52, 3) := by decide +kernel
theorem dX3_faultsBetween_45 : decode cX3_faultsBetween 45 = .ok (.iload_n 2, 1) := by decide +kernel
theorem dX3_faultsBetween_46 : decode cX3_faultsBetween 46 = .ok (.if_icmp .eq 6, 3) := by decide +kernel
theorem dX3_faultsBetween_49 : decode cX3_faultsBetween 49 = .ok (.iinc 1 1, 3) := by decide +kernel
theorem dX3_faultsBetween_52 : decode cX3_faultsBetween 52 = .ok (.aload_n 0, 1) := by decide +kernel
theorem dX3_faultsBetween_53 : decode cX3_faultsBetween 53 = .ok (.iload_n 2, 1) := by decide +kernel
theorem dX3_faultsBetween_54 : decode cX3_faultsBetween 54 = .ok (.invokevirtual 136, 3) := by decide +kernel
theorem dX3_faultsBetween_57 : decode cX3_faultsBetween 57 = .ok (.ifCond .eq 6, 3) := by decide +kernel
theorem dX3_faultsBetween_60 : decode cX3_faultsBetween 60 = .ok (.iinc 1 1, 3) := by decide +kernel
theorem dX3_faultsBetween_63 : decode cX3_faultsBetween 63 = .ok (.aload_n 0, 1) := by decide +kernel
theorem dX3_faultsBetween_64 : decode cX3_faultsBetween 64 = .ok (.getfield 19, 3) := by decide +kernel
theorem dX3_faultsBetween_67 : decode cX3_faultsBetween 67 = .ok (.iload_n 2, 1) := by decide +kernel
theorem dX3_faultsBetween_68 : decode cX3_faultsBetween 68 = .ok (.invokevirtual 117, 3) := by decide +kernel
theorem dX3_faultsBetween_71 : decode cX3_faultsBetween 71 = .ok (.istore_n 2, 1) := by decide +kernel
theorem dX3_faultsBetween_72 : decode cX3_faultsBetween 72 = .ok (.iinc 3 1, 3) := by decide +kernel
theorem dX3_faultsBetween_75 : decode cX3_faultsBetween 75 = .ok (.goto (-56), 3) := by decide +kernel
theorem dX3_faultsBetween_78 : decode cX3_faultsBetween 78 = .ok (.iload_n 1, 1) := by decide +kernel
theorem dX3_faultsBetween_79 : decode cX3_faultsBetween 79 = .ok (.ireturn, 1) := by decide +kernel
theorem dX3_isOvertaken_0 : decode cX3_isOvertaken 0 = .ok (.aload_n 0, 1) := by decide +kernel
theorem dX3_isOvertaken_1 : decode cX3_isOvertaken 1 = .ok (.getfield 12, 3) := by decide +kernel
theorem dX3_isOvertaken_4 : decode cX3_isOvertaken 4 = .ok (.iload_n 1, 1) := by decide +kernel
theorem dX3_isOvertaken_5 : decode cX3_isOvertaken 5 = .ok (.invokevirtual 139, 3) := by decide +kernel
theorem dX3_isOvertaken_8 : decode cX3_isOvertaken 8 = .ok (.istore_n 2, 1) := by decide +kernel
theorem dX3_isOvertaken_9 : decode cX3_isOvertaken 9 = .ok (.aload_n 0, 1) := by decide +kernel
theorem dX3_isOvertaken_10 : decode cX3_isOvertaken 10 = .ok (.getfield 27, 3) := by decide +kernel
theorem dX3_isOvertaken_13 : decode cX3_isOvertaken 13 = .ok (.iconst 2, 1) := by decide +kernel
theorem dX3_isOvertaken_14 : decode cX3_isOvertaken 14 = .ok (.if_icmp .eq 30, 3) := by decide +kernel
theorem dX3_isOvertaken_17 : decode cX3_isOvertaken 17 = .ok (.iload_n 2, 1) := by decide +kernel
theorem dX3_isOvertaken_18 : decode cX3_isOvertaken 18 = .ok (.ifCond .eq 26, 3) := by decide +kernel
theorem dX3_isOvertaken_21 : decode cX3_isOvertaken 21 = .ok (.aload_n 0, 1) := by decide +kernel
theorem dX3_isOvertaken_22 : decode cX3_isOvertaken 22 = .ok (.getfield 19, 3) := by decide +kernel
theorem dX3_isOvertaken_25 : decode cX3_isOvertaken 25 = .ok (.iload_n 2, 1) := by decide +kernel
theorem dX3_isOvertaken_26 : decode cX3_isOvertaken 26 = .ok (.invokevirtual 142, 3) := by decide +kernel
theorem dX3_isOvertaken_29 : decode cX3_isOvertaken 29 = .ok (.aload_n 0, 1) := by decide +kernel
theorem dX3_isOvertaken_30 : decode cX3_isOvertaken 30 = .ok (.getfield 19, 3) := by decide +kernel
theorem dX3_isOvertaken_33 : decode cX3_isOvertaken 33 = .ok (.iload_n 1, 1) := by decide +kernel
theorem dX3_isOvertaken_34 : decode cX3_isOvertaken 34 = .ok (.invokevirtual 142, 3) := by decide +kernel
theorem dX3_isOvertaken_37 : decode cX3_isOvertaken 37 = .ok (.if_icmp .ge 7, 3) := by decide +kernel
theorem dX3_isOvertaken_40 : decode cX3_isOvertaken 40 = .ok (.iconst 1, 1) := by decide +kernel
theorem dX3_isOvertaken_41 : decode cX3_isOvertaken 41 = .ok (.goto 4, 3) := by decide +kernel
theorem dX3_isOvertaken_44 : decode cX3_isOvertaken 44 = .ok (.iconst 0, 1) := by decide +kernel
theorem dX3_isOvertaken_45 : decode cX3_isOvertaken 45 = .ok (.ireturn, 1) := by decide +kernel
end
section
abbrev R_BM_isMode : Room := { frames := 0, cells := 0, slots := 0, locals := 0 }
set_option maxHeartbeats 4000000 in
set_option maxRecDepth 100000 in
theorem c_BM_isMode (ad : Nat → Nat) (cA : ClassId) (s : zT) (mode : Int32) (most : Int32) : xct cA yX3_isMode cX3_isMode 2 (some .boolean) R_BM_isMode [.int mode, .int most] (wd ad cA s) (some (.int (zb (mBM_isMode mode most)))) (wd ad cA (s)) := by
  refine xct_of (own := RX3) (by decide) rfl (Nat.le_of_ble_eq_true rfl) (fun X hX => ?_)
  show xs X cA RX3 cX3_isMode 2 (some .boolean) R_BM_isMode (wd ad cA s) 0 0 0 [(0, .int mode), (1, .int most)] []
  refine xs_iload_n 0 dX3_isMode_0 rfl ?_
  refine xs_iconst (v := 2) dX3_isMode_1 (by decide) ?_
  refine xs_icmp_ne (t := 23) dX3_isMode_2 (by decide) (fun c2 => ?_) (fun c2 => ?_)
  · refine xs_iload_n 0 dX3_isMode_23 rfl ?_
    refine xs_if_lt (t := 40) dX3_isMode_24 (by decide) (fun c24 => ?_) (fun c24 => ?_)
    · refine xs_iconst (v := zb false) dX3_isMode_40 rfl ?_
      exact xs_zret hX rfl dX3_isMode_41 (by simp [mBM_isMode, c2, c24]) rfl
    · refine xs_iload_n 0 dX3_isMode_27 rfl ?_
      refine xs_iconst (v := 2) dX3_isMode_28 (by decide) ?_
      refine xs_icmp_ge (t := 40) dX3_isMode_29 (by decide) (fun c29 => ?_) (fun c29 => ?_)
      · refine xs_iconst (v := zb false) dX3_isMode_40 rfl ?_
        exact xs_zret hX rfl dX3_isMode_41 (by simp [mBM_isMode, c2, c24, c29]) rfl
      · refine xs_iload_n 1 dX3_isMode_32 rfl ?_
        refine xs_if_ne (t := 40) dX3_isMode_33 (by decide) (fun c33 => ?_) (fun c33 => ?_)
        · refine xs_iconst (v := zb false) dX3_isMode_40 rfl ?_
          exact xs_zret hX rfl dX3_isMode_41 (by simp [mBM_isMode, c2, c24, c29, c33]) rfl
        · refine xs_iconst (v := zb true) dX3_isMode_36 rfl ?_
          refine xs_goto (t := 41) dX3_isMode_37 (by decide) ?_
          exact xs_zret hX rfl dX3_isMode_41 (by simp [mBM_isMode, c2, c24, c29, c33]) rfl
  · refine xs_iload_n 1 dX3_isMode_5 rfl ?_
    refine xs_iconst (v := 1) dX3_isMode_6 (by decide) ?_
    refine xs_icmp_lt (t := 21) dX3_isMode_7 (by decide) (fun c7 => ?_) (fun c7 => ?_)
    · refine xs_iconst (v := zb false) dX3_isMode_21 rfl ?_
      exact xs_zret hX rfl dX3_isMode_22 (by simp [mBM_isMode, c2, c7]) rfl
    · refine xs_iload_n 1 dX3_isMode_10 rfl ?_
      refine xs_sipush (v := 2000) dX3_isMode_11 (by decide) ?_
      refine xs_icmp_gt (t := 21) dX3_isMode_14 (by decide) (fun c14 => ?_) (fun c14 => ?_)
      · refine xs_iconst (v := zb false) dX3_isMode_21 rfl ?_
        exact xs_zret hX rfl dX3_isMode_22 (by simp [mBM_isMode, c2, c7, c14]) rfl
      · refine xs_iconst (v := zb true) dX3_isMode_17 rfl ?_
        refine xs_goto (t := 22) dX3_isMode_18 (by decide) ?_
        exact xs_zret hX rfl dX3_isMode_22 (by simp [mBM_isMode, c2, c7, c14]) rfl
theorem k_BM_isMode {X : xz_X} {cA : ClassId} {own : String} {ad : Nat → Nat} {cc : ByteArray} {nL : Nat} {ret : Option FieldType} {R : Room} {s : zT} {pc ix : Nat} {L : List (Nat × Value)} {st : List Value} {mode : Int32} {most : Int32} (d : decode cc pc = .ok (.invokestatic ix, 3)) (hw : xwS own ix yX3_isMode cX3_isMode 2 (some .boolean) 2) (hR : xroom R_BM_isMode 2 R) (hst : (st.map fun v => v.category).sum ≤ 8) (kk : xs X cA own cc nL ret R (wd ad cA (s)) 0 0 (pc + 3) L (.int (zb (mBM_isMode mode most)) :: st)) : xs X cA own cc nL ret R (wd ad cA s) 0 0 pc L (.int most :: .int mode :: st) :=
  xs_callS (c_BM_isMode ad cA s mode most) rfl rfl d hw hR rfl hst ⟨Nat.zero_le _, Nat.zero_le _⟩ kk
abbrev R_BM_fits : Room := { frames := 1, cells := 0, slots := 0, locals := 20 }
set_option maxRecDepth 100000 in
theorem kw_BM_Ln_count : xwV RX3 41 yX1_count cX1_count 1 (some .int) 0 := ⟨⟨xt_of (List.mem_of_getElem? (i := 184) rfl) rfl, xt_of (by decide +kernel) rfl, xt_of (by decide +kernel) rfl, by decide +kernel⟩, xt_of (by decide +kernel) rfl, xt_of (by decide +kernel) rfl⟩
set_option maxHeartbeats 4000000 in
set_option maxRecDepth 100000 in
theorem c_BM_fits (ad : Nat → Nat) (cA : ClassId) (s : zT) (a : zS) : xct cA yX3_fits cX3_fits 2 (some .boolean) R_BM_fits [.ref (ad 0), .int (zs a)] (wd ad cA s) (some (.int (zb (mBM_fits s a)))) (wd ad cA (s)) := by
  refine xct_of (own := RX3) (by decide) rfl (Nat.le_of_ble_eq_true rfl) (fun X hX => ?_)
  show xs X cA RX3 cX3_fits 2 (some .boolean) R_BM_fits (wd ad cA s) 0 0 0 [(0, .ref (ad 0)), (1, .int (zs a))] []
  refine xs_iload_n 1 dX3_fits_0 rfl ?_
  refine xs_sif_ne (t := 25) dX3_fits_1 (by decide) (fun c1 => ?_) (fun c1 => ?_)
  · refine xs_iconst (v := zb true) dX3_fits_25 rfl ?_
    refine xs_goto (t := 30) dX3_fits_26 (by decide) ?_
    exact xs_zret hX rfl dX3_fits_30 (by simp [mBM_fits, c1]) rfl
  · refine xs_aload_n 0 dX3_fits_4 rfl ?_
    refine g_BM_mode dX3_fits_5 ?_
    refine xs_iconst (v := 2) dX3_fits_8 (by decide) ?_
    refine xs_icmp_eq (t := 25) dX3_fits_9 (by decide) (fun c9 => ?_) (fun c9 => ?_)
    · refine xs_iconst (v := zb true) dX3_fits_25 rfl ?_
      refine xs_goto (t := 30) dX3_fits_26 (by decide) ?_
      exact xs_zret hX rfl dX3_fits_30 (by simp [mBM_fits, c1, c9]) rfl
    · refine xs_aload_n 0 dX3_fits_12 rfl ?_
      refine g_BM_line dX3_fits_13 ?_
      refine k_Ln_count dX3_fits_16 kw_BM_Ln_count (by decide) (Nat.le_of_ble_eq_true rfl) ?_
      refine xs_sipush (v := 2000) dX3_fits_19 (by decide) ?_
      refine xs_icmp_ge (t := 29) dX3_fits_22 (by decide) (fun c22 => ?_) (fun c22 => ?_)
      · refine xs_iconst (v := zb false) dX3_fits_29 rfl ?_
        exact xs_zret hX rfl dX3_fits_30 (by simp [mBM_fits, c1, c9, c22]) rfl
      · refine xs_iconst (v := zb true) dX3_fits_25 rfl ?_
        refine xs_goto (t := 30) dX3_fits_26 (by decide) ?_
        exact xs_zret hX rfl dX3_fits_30 (by simp [mBM_fits, c1, c9, c22]) rfl
theorem k_BM_fits {X : xz_X} {cA : ClassId} {own : String} {ad : Nat → Nat} {cc : ByteArray} {nL : Nat} {ret : Option FieldType} {R : Room} {s : zT} {pc ix : Nat} {L : List (Nat × Value)} {st : List Value} {a : zS} (d : decode cc pc = .ok (.invokevirtual ix, 3)) (hw : xwV own ix yX3_fits cX3_fits 2 (some .boolean) 1) (hR : xroom R_BM_fits 2 R) (hst : (st.map fun v => v.category).sum ≤ 8) (kk : xs X cA own cc nL ret R (wd ad cA (s)) 0 0 (pc + 3) L (.int (zb (mBM_fits s a)) :: st)) : xs X cA own cc nL ret R (wd ad cA s) 0 0 pc L (.int (zs a) :: .ref (ad 0) :: st) :=
  xs_call 0 (c_BM_fits ad cA s a) rfl rfl d hw hR rfl rfl rfl hst ⟨Nat.zero_le _, Nat.zero_le _⟩ kk
abbrev R_BM_touch : Room := { frames := 2, cells := 0, slots := 0, locals := 44 }
set_option maxRecDepth 100000 in
theorem kw_BM_Ln_toEnd : xwV RX3 120 yX1_moveToEnd cX1_moveToEnd 2 none 1 := ⟨⟨xt_of (List.mem_of_getElem? (i := 505) rfl) rfl, xt_of (by decide +kernel) rfl, xt_of (by decide +kernel) rfl, by decide +kernel⟩, xt_of (by decide +kernel) rfl, xt_of (by decide +kernel) rfl⟩
set_option maxHeartbeats 4000000 in
set_option maxRecDepth 100000 in
theorem c_BM_touch (ad : Nat → Nat) (cA : ClassId) (s : zT) (a : zS) : xct cA yX3_touch cX3_touch 2 none R_BM_touch [.ref (ad 0), .int (zs a)] (wd ad cA s) none (wd ad cA (mBM_touch s a)) := by
  refine xct_of (own := RX3) (by decide) rfl (Nat.le_of_ble_eq_true rfl) (fun X hX => ?_)
  show xs X cA RX3 cX3_touch 2 none R_BM_touch (wd ad cA s) 0 0 0 [(0, .ref (ad 0)), (1, .int (zs a))] []
  refine xs_aload_n 0 dX3_touch_0 rfl ?_
  refine g_BM_mode dX3_touch_1 ?_
  refine xs_iconst (v := 2) dX3_touch_4 (by decide) ?_
  refine xs_icmp_ne (t := 16) dX3_touch_5 (by decide) (fun c5 => ?_) (fun c5 => ?_)
  · exact xs_vret hX rfl dX3_touch_16 (by simp only [mBM_touch, if_neg c5])
  · refine xs_aload_n 0 dX3_touch_8 rfl ?_
    refine g_BM_line dX3_touch_9 ?_
    refine xs_iload_n 1 dX3_touch_12 rfl ?_
    refine k_Ln_toEnd dX3_touch_13 kw_BM_Ln_toEnd (by decide) (Nat.le_of_ble_eq_true rfl) ?_
    exact xs_vret hX rfl dX3_touch_16 (by simp only [mBM_touch, if_pos c5])
theorem k_BM_touch {X : xz_X} {cA : ClassId} {own : String} {ad : Nat → Nat} {cc : ByteArray} {nL : Nat} {ret : Option FieldType} {R : Room} {s : zT} {pc ix : Nat} {L : List (Nat × Value)} {st : List Value} {a : zS} (d : decode cc pc = .ok (.invokevirtual ix, 3)) (hw : xwV own ix yX3_touch cX3_touch 2 none 1) (hR : xroom R_BM_touch 2 R) (hst : (st.map fun v => v.category).sum ≤ 8) (kk : xs X cA own cc nL ret R (wd ad cA (mBM_touch s a)) 0 0 (pc + 3) L (st)) : xs X cA own cc nL ret R (wd ad cA s) 0 0 pc L (.int (zs a) :: .ref (ad 0) :: st) :=
  xs_call 0 (c_BM_touch ad cA s a) rfl rfl d hw hR rfl rfl rfl hst ⟨Nat.zero_le _, Nat.zero_le _⟩ kk
abbrev R_BM_change : Room := { frames := 3, cells := 0, slots := 0, locals := 65 }
set_option maxRecDepth 100000 in
theorem kw_BM_BM_touch : xwV RX3 78 yX3_touch cX3_touch 2 none 1 := ⟨⟨xt_of (List.mem_of_getElem? (i := 501) rfl) rfl, xt_of (by decide +kernel) rfl, xt_of (by decide +kernel) rfl, by decide +kernel⟩, xt_of (by decide +kernel) rfl, xt_of (by decide +kernel) rfl⟩
set_option maxHeartbeats 4000000 in
set_option maxRecDepth 100000 in
theorem c_BM_change (ad : Nat → Nat) (cA : ClassId) (s : zT) (a : zS) (x : Int32) : xct cA yX3_change cX3_change 3 none R_BM_change [.ref (ad 0), .int (zs a), .int x] (wd ad cA s) none (wd ad cA (mBM_change s a x)) := by
  refine xct_of (own := RX3) (by decide) rfl (Nat.le_of_ble_eq_true rfl) (fun X hX => ?_)
  show xs X cA RX3 cX3_change 3 none R_BM_change (wd ad cA s) 0 0 0 [(0, .ref (ad 0)), (1, .int (zs a)), (2, .int x)] []
  refine xs_aload_n 0 dX3_change_0 rfl ?_
  refine g_BM_numbers dX3_change_1 ?_
  refine xs_iload_n 1 dX3_change_4 rfl ?_
  refine xs_iload_n 2 dX3_change_5 rfl ?_
  refine as_I3 dX3_change_6 ?_
  refine xs_aload_n 0 dX3_change_7 rfl ?_
  refine xs_iload_n 1 dX3_change_8 rfl ?_
  refine k_BM_touch dX3_change_9 kw_BM_BM_touch (by decide) (Nat.le_of_ble_eq_true rfl) ?_
  exact xs_vret hX rfl dX3_change_12 rfl
theorem k_BM_change {X : xz_X} {cA : ClassId} {own : String} {ad : Nat → Nat} {cc : ByteArray} {nL : Nat} {ret : Option FieldType} {R : Room} {s : zT} {pc ix : Nat} {L : List (Nat × Value)} {st : List Value} {a : zS} {x : Int32} (d : decode cc pc = .ok (.invokevirtual ix, 3)) (hw : xwV own ix yX3_change cX3_change 3 none 2) (hR : xroom R_BM_change 3 R) (hst : (st.map fun v => v.category).sum ≤ 8) (kk : xs X cA own cc nL ret R (wd ad cA (mBM_change s a x)) 0 0 (pc + 3) L (st)) : xs X cA own cc nL ret R (wd ad cA s) 0 0 pc L (.int x :: .int (zs a) :: .ref (ad 0) :: st) :=
  xs_call 0 (c_BM_change ad cA s a x) rfl rfl d hw hR rfl rfl rfl hst ⟨Nat.zero_le _, Nat.zero_le _⟩ kk
abbrev R_BM_go : Room := { frames := 5, cells := 0, slots := 0, locals := 120 }
set_option maxRecDepth 100000 in
theorem kw_BM_Bi_remove : xwV RX3 123 yX0_remove cX0_remove 4 none 1 := ⟨⟨xt_of (List.mem_of_getElem? (i := 476) rfl) rfl, xt_of (by decide +kernel) rfl, xt_of (by decide +kernel) rfl, by decide +kernel⟩, xt_of (by decide +kernel) rfl, xt_of (by decide +kernel) rfl⟩
set_option maxRecDepth 100000 in
theorem kw_BM_Ln_leave : xwV RX3 126 yX1_leave cX1_leave 2 none 1 := ⟨⟨xt_of (List.mem_of_getElem? (i := 488) rfl) rfl, xt_of (by decide +kernel) rfl, xt_of (by decide +kernel) rfl, by decide +kernel⟩, xt_of (by decide +kernel) rfl, xt_of (by decide +kernel) rfl⟩
set_option maxHeartbeats 4000000 in
set_option maxRecDepth 100000 in
theorem c_BM_go (ad : Nat → Nat) (cA : ClassId) (s : zT) (a : zS) (hr : rok s) : xct cA yX3_go cX3_go 2 none R_BM_go [.ref (ad 0), .int (zs a)] (wd ad cA s) none (wd ad cA (mBM_go s a)) := by
  refine xct_of (own := RX3) (by decide) rfl (Nat.le_of_ble_eq_true rfl) (fun X hX => ?_)
  show xs X cA RX3 cX3_go 2 none R_BM_go (wd ad cA s) 0 0 0 [(0, .ref (ad 0)), (1, .int (zs a))] []
  refine xs_aload_n 0 dX3_go_0 rfl ?_
  refine g_BM_bins dX3_go_1 ?_
  refine xs_iload_n 1 dX3_go_4 rfl ?_
  refine k_Bi_remove dX3_go_5 kw_BM_Bi_remove (by decide) (Nat.le_of_ble_eq_true rfl) hr ?_
  refine xs_aload_n 0 dX3_go_8 rfl ?_
  refine g_BM_line dX3_go_9 ?_
  refine xs_iload_n 1 dX3_go_12 rfl ?_
  refine k_Ln_leave dX3_go_13 kw_BM_Ln_leave (by decide) (Nat.le_of_ble_eq_true rfl) ?_
  exact xs_vret hX rfl dX3_go_16 rfl
theorem k_BM_go {X : xz_X} {cA : ClassId} {own : String} {ad : Nat → Nat} {cc : ByteArray} {nL : Nat} {ret : Option FieldType} {R : Room} {s : zT} {pc ix : Nat} {L : List (Nat × Value)} {st : List Value} {a : zS} (d : decode cc pc = .ok (.invokevirtual ix, 3)) (hw : xwV own ix yX3_go cX3_go 2 none 1) (hR : xroom R_BM_go 2 R) (hst : (st.map fun v => v.category).sum ≤ 8) (hr : rok s) (kk : xs X cA own cc nL ret R (wd ad cA (mBM_go s a)) 0 0 (pc + 3) L (st)) : xs X cA own cc nL ret R (wd ad cA s) 0 0 pc L (.int (zs a) :: .ref (ad 0) :: st) :=
  xs_call 0 (c_BM_go ad cA s a hr) rfl rfl d hw hR rfl rfl rfl hst ⟨Nat.zero_le _, Nat.zero_le _⟩ kk
abbrev R_BM_come : Room := { frames := 6, cells := 0, slots := 0, locals := 141 }
set_option maxRecDepth 100000 in
theorem kw_BM_Ln_join : xwV RX3 99 yX1_join cX1_join 2 (some .int) 0 := ⟨⟨xt_of (List.mem_of_getElem? (i := 415) rfl) rfl, xt_of (by decide +kernel) rfl, xt_of (by decide +kernel) rfl, by decide +kernel⟩, xt_of (by decide +kernel) rfl, xt_of (by decide +kernel) rfl⟩
set_option maxRecDepth 100000 in
theorem kw_BM_Bi_name : xwV RX3 102 yX0_name cX0_name 3 none 2 := ⟨⟨xt_of (List.mem_of_getElem? (i := 423) rfl) rfl, xt_of (by decide +kernel) rfl, xt_of (by decide +kernel) rfl, by decide +kernel⟩, xt_of (by decide +kernel) rfl, xt_of (by decide +kernel) rfl⟩
set_option maxRecDepth 100000 in
theorem kw_BM_Bi_add : xwV RX3 105 yX0_add cX0_add 5 none 1 := ⟨⟨xt_of (List.mem_of_getElem? (i := 431) rfl) rfl, xt_of (by decide +kernel) rfl, xt_of (by decide +kernel) rfl, by decide +kernel⟩, xt_of (by decide +kernel) rfl, xt_of (by decide +kernel) rfl⟩
set_option maxRecDepth 100000 in
theorem kw_BM_Bi_tight : xwV RX3 108 yX0_isTight cX0_isTight 2 (some .boolean) 1 := ⟨⟨xt_of (List.mem_of_getElem? (i := 281) rfl) rfl, xt_of (by decide +kernel) rfl, xt_of (by decide +kernel) rfl, by decide +kernel⟩, xt_of (by decide +kernel) rfl, xt_of (by decide +kernel) rfl⟩
set_option maxRecDepth 100000 in
theorem kw_BM_Bi_stretch : xwV RX3 111 yX0_stretch cX0_stretch 1 none 0 := ⟨⟨xt_of (List.mem_of_getElem? (i := 468) rfl) rfl, xt_of (by decide +kernel) rfl, xt_of (by decide +kernel) rfl, by decide +kernel⟩, xt_of (by decide +kernel) rfl, xt_of (by decide +kernel) rfl⟩
set_option maxRecDepth 100000 in
theorem kw_BM_Ln_first : xwV RX3 114 yX1_first cX1_first 1 (some .int) 0 := ⟨⟨xt_of (List.mem_of_getElem? (i := 215) rfl) rfl, xt_of (by decide +kernel) rfl, xt_of (by decide +kernel) rfl, by decide +kernel⟩, xt_of (by decide +kernel) rfl, xt_of (by decide +kernel) rfl⟩
set_option maxRecDepth 100000 in
theorem kw_BM_Ln_behind : xwV RX3 117 yX1_behind cX1_behind 2 (some .int) 1 := ⟨⟨xt_of (List.mem_of_getElem? (i := 232) rfl) rfl, xt_of (by decide +kernel) rfl, xt_of (by decide +kernel) rfl, by decide +kernel⟩, xt_of (by decide +kernel) rfl, xt_of (by decide +kernel) rfl⟩
set_option maxRecDepth 100000 in
theorem kw_BM_BM_go : xwV RX3 75 yX3_go cX3_go 2 none 1 := ⟨⟨xt_of (List.mem_of_getElem? (i := 472) rfl) rfl, xt_of (by decide +kernel) rfl, xt_of (by decide +kernel) rfl, by decide +kernel⟩, xt_of (by decide +kernel) rfl, xt_of (by decide +kernel) rfl⟩
set_option maxHeartbeats 4000000 in
set_option maxRecDepth 100000 in
theorem t_BM_come2 {X : xz_X} {ad : Nat → Nat} {cA : ClassId} : ∀ (s : zT), rok s → xfin X cA 0 0 none (wd ad cA (mBM_come2 s)) → xs X cA RX3 cX3_come 6 none R_BM_come (wd ad cA s) 0 0 106 [(0, .ref (ad 0))] [] := by
  intro s hr hX
  refine xs_aload_n 0 dX3_come_106 rfl ?_
  refine g_BM_mode dX3_come_107 ?_
  refine xs_iconst (v := 2) dX3_come_110 (by decide) ?_
  refine xs_icmp_ne (t := 139) dX3_come_111 (by decide) (fun c111 => ?_) (fun c111 => ?_)
  · exact xs_vret hX rfl dX3_come_139 (by simp only [mBM_come2, if_neg c111])
  · refine xs_aload_n 0 dX3_come_114 rfl ?_
    refine g_BM_line dX3_come_115 ?_
    refine k_Ln_count dX3_come_118 kw_BM_Ln_count (by decide) (Nat.le_of_ble_eq_true rfl) ?_
    refine xs_aload_n 0 dX3_come_121 rfl ?_
    refine g_BM_most dX3_come_122 ?_
    refine xs_icmp_le (t := 139) dX3_come_125 (by decide) (fun c125 => ?_) (fun c125 => ?_)
    · exact xs_vret hX rfl dX3_come_139 (by simp only [mBM_come2, if_pos c111, if_pos c125])
    · refine xs_aload_n 0 dX3_come_128 rfl ?_
      refine xs_aload_n 0 dX3_come_129 rfl ?_
      refine g_BM_line dX3_come_130 ?_
      refine k_Ln_first dX3_come_133 kw_BM_Ln_first (by decide) (Nat.le_of_ble_eq_true rfl) ?_
      refine k_BM_go dX3_come_136 kw_BM_BM_go (by decide) (Nat.le_of_ble_eq_true rfl) hr ?_
      exact xs_vret hX rfl dX3_come_139 (by simp only [mBM_come2, if_pos c111, if_neg c125])
set_option maxHeartbeats 4000000 in
set_option maxRecDepth 100000 in
theorem t_BM_again {X : xz_X} {ad : Nat → Nat} {cA : ClassId} : ∀ (n i : Nat) (a : zS) (s : zT), rok s → i + n = (s.2 4 2).toNatClampNeg → xfin X cA 0 0 none (wd ad cA (mBM_come2 (mBM_againL n a s))) → xs X cA RX3 cX3_come 6 none R_BM_come (wd ad cA s) 0 0 68 [(5, .int (nI i)), (4, .int (zs a)), (0, .ref (ad 0))] [] := by
  intro n
  induction n with
  | zero =>
    intro i a s hr hi hX
    refine xs_iload 0 dX3_come_68 rfl ?_
    refine xs_aload_n 2 dX3_come_70 rfl ?_
    refine g_BM_line dX3_come_71 ?_
    refine k_Ln_count dX3_come_74 kw_BM_Ln_count (by decide) (Nat.le_of_ble_eq_true rfl) ?_
    refine xs_icmp_ge (t := 106) dX3_come_77 (by decide) (fun c77 => ?_) (fun c77 => ?_)
    · refine xs_sub (L' := [(0, _)]) [2] rfl ?_
      exact t_BM_come2 _ hr hX
    · exact absurd (cnt_le (by omega) (by have := cnt_lt31 (s.2 4 2); omega)) c77
  | succ n ih =>
    intro i a s hr hi hX
    refine xs_iload 0 dX3_come_68 rfl ?_
    refine xs_aload_n 2 dX3_come_70 rfl ?_
    refine g_BM_line dX3_come_71 ?_
    refine k_Ln_count dX3_come_74 kw_BM_Ln_count (by decide) (Nat.le_of_ble_eq_true rfl) ?_
    refine xs_icmp_ge (t := 106) dX3_come_77 (by decide) (fun c77 => ?_) (fun c77 => ?_)
    · exact absurd c77 (cnt_nle (by omega))
    · refine xs_aload_n 2 dX3_come_80 rfl ?_
      refine g_BM_bins dX3_come_81 ?_
      refine xs_iload 1 dX3_come_84 rfl ?_
      refine k_Bi_add dX3_come_86 kw_BM_Bi_add (by decide) (Nat.le_of_ble_eq_true rfl) hr ?_
      refine xs_aload_n 2 dX3_come_89 rfl ?_
      refine g_BM_line dX3_come_90 ?_
      refine xs_iload 1 dX3_come_93 rfl ?_
      refine k_Ln_behind dX3_come_95 kw_BM_Ln_behind (by decide) (Nat.le_of_ble_eq_true rfl) ?_
      refine xs_istore (L' := [(4, _), (5, _), (0, _)]) dX3_come_98 (by decide) rfl ?_
      refine xs_iinc_n (L' := [(5, _), (4, _), (0, _)]) 1 dX3_come_100 rfl (by decide) rfl ?_
      refine xs_goto (t := 68) dX3_come_103 (by decide) ?_
      refine xs_sub (L' := [(5, _), (4, _), (0, _)]) [0, 1, 2] rfl ?_
      exact ih _ _ _ (rok_add hr) (by rw [add_cnt]; omega) hX
set_option maxHeartbeats 4000000 in
set_option maxRecDepth 100000 in
theorem c_BM_come (ad : Nat → Nat) (cA : ClassId) (s : zT) (key : Int32) (x : Int32) (hr : rok s) : xct cA yX3_come cX3_come 6 none R_BM_come [.ref (ad 0), .int key, .int x] (wd ad cA s) none (wd ad cA (mBM_come s key x)) := by
  refine xct_of (own := RX3) (by decide) rfl (Nat.le_of_ble_eq_true rfl) (fun X hX => ?_)
  show xs X cA RX3 cX3_come 6 none R_BM_come (wd ad cA s) 0 0 0 [(0, .ref (ad 0)), (1, .int key), (2, .int x)] []
  refine xs_aload_n 0 dX3_come_0 rfl ?_
  refine g_BM_line dX3_come_1 ?_
  refine k_Ln_join dX3_come_4 kw_BM_Ln_join (by decide) (Nat.le_of_ble_eq_true rfl) ?_
  refine xs_istore_n (L' := [(3, _), (0, _), (1, _), (2, _)]) dX3_come_7 (by decide) rfl ?_
  refine xs_aload_n 1 dX3_come_8 rfl ?_
  refine g_BM_numbers dX3_come_9 ?_
  refine xs_iload_n 0 dX3_come_12 rfl ?_
  refine xs_iload_n 3 dX3_come_13 rfl ?_
  refine as_I3 dX3_come_14 ?_
  refine xs_aload_n 1 dX3_come_15 rfl ?_
  refine g_BM_bins dX3_come_16 ?_
  refine xs_iload_n 0 dX3_come_19 rfl ?_
  refine xs_iload_n 2 dX3_come_20 rfl ?_
  refine k_Bi_name dX3_come_21 kw_BM_Bi_name (by decide) (Nat.le_of_ble_eq_true rfl) ?_
  refine xs_aload_n 1 dX3_come_24 rfl ?_
  refine g_BM_bins dX3_come_25 ?_
  refine xs_iload_n 0 dX3_come_28 rfl ?_
  refine k_Bi_add dX3_come_29 kw_BM_Bi_add (by decide) (Nat.le_of_ble_eq_true rfl) (rok_join hr) ?_
  refine xs_aload_n 1 dX3_come_32 rfl ?_
  refine g_BM_bins dX3_come_33 ?_
  refine xs_aload_n 1 dX3_come_36 rfl ?_
  refine g_BM_line dX3_come_37 ?_
  refine k_Ln_count dX3_come_40 kw_BM_Ln_count (by decide) (Nat.le_of_ble_eq_true rfl) ?_
  refine k_Bi_tight dX3_come_43 kw_BM_Bi_tight (by decide) (Nat.le_of_ble_eq_true rfl) ?_
  refine xs_bif_eq (t := 106) dX3_come_46 (by decide) (fun c46 => ?_) (fun c46 => ?_)
  · refine xs_sub (L' := [(0, _)]) [1] rfl ?_
    exact t_BM_come2 _ (rok_add (rok_join hr)) (by simp only [mBM_come, c46, ↓reduceIte, Bool.false_eq_true] at hX; exact hX)
  · refine xs_aload_n 1 dX3_come_49 rfl ?_
    refine g_BM_bins dX3_come_50 ?_
    refine k_Bi_stretch dX3_come_53 kw_BM_Bi_stretch (by decide) (Nat.le_of_ble_eq_true rfl) ?_
    refine xs_aload_n 1 dX3_come_56 rfl ?_
    refine g_BM_line dX3_come_57 ?_
    refine k_Ln_first dX3_come_60 kw_BM_Ln_first (by decide) (Nat.le_of_ble_eq_true rfl) ?_
    refine xs_istore (L' := [(4, _), (3, _), (0, _), (1, _), (2, _)]) dX3_come_63 (by decide) rfl ?_
    refine xs_iconst (v := nI 0) dX3_come_65 rfl ?_
    refine xs_istore (L' := [(5, _), (4, _), (3, _), (0, _), (1, _), (2, _)]) dX3_come_66 (by decide) rfl ?_
    refine xs_sub (L' := [(5, _), (4, _), (0, _)]) [0, 1, 3] rfl ?_
    exact t_BM_again _ 0 _ _ (rok_stretch (rok_add (rok_join hr)) c46) (Nat.zero_add _) (by simp only [mBM_come, c46, ↓reduceIte, Bool.false_eq_true] at hX; exact hX)
theorem k_BM_come {X : xz_X} {cA : ClassId} {own : String} {ad : Nat → Nat} {cc : ByteArray} {nL : Nat} {ret : Option FieldType} {R : Room} {s : zT} {pc ix : Nat} {L : List (Nat × Value)} {st : List Value} {key : Int32} {x : Int32} (d : decode cc pc = .ok (.invokevirtual ix, 3)) (hw : xwV own ix yX3_come cX3_come 6 none 2) (hR : xroom R_BM_come 6 R) (hst : (st.map fun v => v.category).sum ≤ 8) (hr : rok s) (kk : xs X cA own cc nL ret R (wd ad cA (mBM_come s key x)) 0 0 (pc + 3) L (st)) : xs X cA own cc nL ret R (wd ad cA s) 0 0 pc L (.int x :: .int key :: .ref (ad 0) :: st) :=
  xs_call 0 (c_BM_come ad cA s key x hr) rfl rfl d hw hR rfl rfl rfl hst ⟨Nat.zero_le _, Nat.zero_le _⟩ kk
abbrev R_BM_first : Room := { frames := 1, cells := 0, slots := 0, locals := 22 }
set_option maxRecDepth 100000 in
theorem kw_BM_Bi_from : xwV RX3 129 yX0_firstFrom cX0_firstFrom 3 (some .int) 1 := ⟨⟨xt_of (List.mem_of_getElem? (i := 211) rfl) rfl, xt_of (by decide +kernel) rfl, xt_of (by decide +kernel) rfl, by decide +kernel⟩, xt_of (by decide +kernel) rfl, xt_of (by decide +kernel) rfl⟩
set_option maxHeartbeats 4000000 in
set_option maxRecDepth 100000 in
theorem c_BM_first (ad : Nat → Nat) (cA : ClassId) (s : zT) (hr : rok s) : xct cA yX3_firstSlot cX3_firstSlot 1 (some .int) R_BM_first [.ref (ad 0)] (wd ad cA s) (some (.int (zs (mBM_first s)))) (wd ad cA (s)) := by
  refine xct_of (own := RX3) (by decide) rfl (Nat.le_of_ble_eq_true rfl) (fun X hX => ?_)
  show xs X cA RX3 cX3_firstSlot 1 (some .int) R_BM_first (wd ad cA s) 0 0 0 [(0, .ref (ad 0))] []
  refine xs_aload_n 0 dX3_firstSlot_0 rfl ?_
  refine g_BM_mode dX3_firstSlot_1 ?_
  refine xs_if_ne (t := 18) dX3_firstSlot_4 (by decide) (fun c4 => ?_) (fun c4 => ?_)
  · refine xs_aload_n 0 dX3_firstSlot_18 rfl ?_
    refine g_BM_line dX3_firstSlot_19 ?_
    refine k_Ln_first dX3_firstSlot_22 kw_BM_Ln_first (by decide) (Nat.le_of_ble_eq_true rfl) ?_
    exact xs_iret hX rfl dX3_firstSlot_25 (by simp only [mBM_first, if_neg c4]) rfl
  · refine xs_aload_n 0 dX3_firstSlot_7 rfl ?_
    refine g_BM_bins dX3_firstSlot_8 ?_
    refine xs_iconst (v := nI 0) dX3_firstSlot_11 rfl ?_
    refine k_Bi_from dX3_firstSlot_12 kw_BM_Bi_from (by decide) (Nat.le_of_ble_eq_true rfl) hr (by decide) ?_
    refine xs_goto (t := 25) dX3_firstSlot_15 (by decide) ?_
    exact xs_iret hX rfl dX3_firstSlot_25 (by simp only [mBM_first, if_pos c4]) rfl
theorem k_BM_first {X : xz_X} {cA : ClassId} {own : String} {ad : Nat → Nat} {cc : ByteArray} {nL : Nat} {ret : Option FieldType} {R : Room} {s : zT} {pc ix : Nat} {L : List (Nat × Value)} {st : List Value} (d : decode cc pc = .ok (.invokevirtual ix, 3)) (hw : xwV own ix yX3_firstSlot cX3_firstSlot 1 (some .int) 0) (hR : xroom R_BM_first 1 R) (hst : (st.map fun v => v.category).sum ≤ 8) (hr : rok s) (kk : xs X cA own cc nL ret R (wd ad cA (s)) 0 0 (pc + 3) L (.int (zs (mBM_first s)) :: st)) : xs X cA own cc nL ret R (wd ad cA s) 0 0 pc L (.ref (ad 0) :: st) :=
  xs_call 0 (c_BM_first ad cA s hr) rfl rfl d hw hR rfl rfl rfl hst ⟨Nat.zero_le _, Nat.zero_le _⟩ kk
abbrev R_BM_behind : Room := { frames := 3, cells := 0, slots := 0, locals := 64 }
set_option maxRecDepth 100000 in
theorem kw_BM_Bi_behind : xwV RX3 132 yX0_behind cX0_behind 2 (some .int) 1 := ⟨⟨xt_of (List.mem_of_getElem? (i := 227) rfl) rfl, xt_of (by decide +kernel) rfl, xt_of (by decide +kernel) rfl, by decide +kernel⟩, xt_of (by decide +kernel) rfl, xt_of (by decide +kernel) rfl⟩
set_option maxHeartbeats 4000000 in
set_option maxRecDepth 100000 in
theorem c_BM_behind (ad : Nat → Nat) (cA : ClassId) (s : zT) (a : zS) (hr : rok s) : xct cA yX3_slotBehind cX3_slotBehind 2 (some .int) R_BM_behind [.ref (ad 0), .int (zs a)] (wd ad cA s) (some (.int (zs (mBM_behind s a)))) (wd ad cA (s)) := by
  refine xct_of (own := RX3) (by decide) rfl (Nat.le_of_ble_eq_true rfl) (fun X hX => ?_)
  show xs X cA RX3 cX3_slotBehind 2 (some .int) R_BM_behind (wd ad cA s) 0 0 0 [(0, .ref (ad 0)), (1, .int (zs a))] []
  refine xs_aload_n 0 dX3_slotBehind_0 rfl ?_
  refine g_BM_mode dX3_slotBehind_1 ?_
  refine xs_if_ne (t := 18) dX3_slotBehind_4 (by decide) (fun c4 => ?_) (fun c4 => ?_)
  · refine xs_aload_n 0 dX3_slotBehind_18 rfl ?_
    refine g_BM_line dX3_slotBehind_19 ?_
    refine xs_iload_n 1 dX3_slotBehind_22 rfl ?_
    refine k_Ln_behind dX3_slotBehind_23 kw_BM_Ln_behind (by decide) (Nat.le_of_ble_eq_true rfl) ?_
    exact xs_iret hX rfl dX3_slotBehind_26 (by simp only [mBM_behind, if_neg c4]) rfl
  · refine xs_aload_n 0 dX3_slotBehind_7 rfl ?_
    refine g_BM_bins dX3_slotBehind_8 ?_
    refine xs_iload_n 1 dX3_slotBehind_11 rfl ?_
    refine k_Bi_behind dX3_slotBehind_12 kw_BM_Bi_behind (by decide) (Nat.le_of_ble_eq_true rfl) hr ?_
    refine xs_goto (t := 26) dX3_slotBehind_15 (by decide) ?_
    exact xs_iret hX rfl dX3_slotBehind_26 (by simp only [mBM_behind, if_pos c4]) rfl
theorem k_BM_behind {X : xz_X} {cA : ClassId} {own : String} {ad : Nat → Nat} {cc : ByteArray} {nL : Nat} {ret : Option FieldType} {R : Room} {s : zT} {pc ix : Nat} {L : List (Nat × Value)} {st : List Value} {a : zS} (d : decode cc pc = .ok (.invokevirtual ix, 3)) (hw : xwV own ix yX3_slotBehind cX3_slotBehind 2 (some .int) 1) (hR : xroom R_BM_behind 2 R) (hst : (st.map fun v => v.category).sum ≤ 8) (hr : rok s) (kk : xs X cA own cc nL ret R (wd ad cA (s)) 0 0 (pc + 3) L (.int (zs (mBM_behind s a)) :: st)) : xs X cA own cc nL ret R (wd ad cA s) 0 0 pc L (.int (zs a) :: .ref (ad 0) :: st) :=
  xs_call 0 (c_BM_behind ad cA s a hr) rfl rfl d hw hR rfl rfl rfl hst ⟨Nat.zero_le _, Nat.zero_le _⟩ kk
abbrev R_BM_over : Room := { frames := 1, cells := 0, slots := 0, locals := 21 }
set_option maxRecDepth 100000 in
theorem kw_BM_Bi_next : xwV RX3 139 yX0_nextInPlace cX0_nextInPlace 2 (some .int) 1 := ⟨⟨xt_of (List.mem_of_getElem? (i := 297) rfl) rfl, xt_of (by decide +kernel) rfl, xt_of (by decide +kernel) rfl, by decide +kernel⟩, xt_of (by decide +kernel) rfl, xt_of (by decide +kernel) rfl⟩
set_option maxRecDepth 100000 in
theorem kw_BM_Ln_rankOf : xwV RX3 142 yX1_rankOf cX1_rankOf 2 (some .int) 1 := ⟨⟨xt_of (List.mem_of_getElem? (i := 301) rfl) rfl, xt_of (by decide +kernel) rfl, xt_of (by decide +kernel) rfl, by decide +kernel⟩, xt_of (by decide +kernel) rfl, xt_of (by decide +kernel) rfl⟩
set_option maxHeartbeats 4000000 in
set_option maxRecDepth 100000 in
theorem c_BM_over (ad : Nat → Nat) (cA : ClassId) (s : zT) (a : zS) : xct cA yX3_isOvertaken cX3_isOvertaken 3 (some .boolean) R_BM_over [.ref (ad 0), .int (zs a)] (wd ad cA s) (some (.int (zb (mBM_over s a)))) (wd ad cA (s)) := by
  refine xct_of (own := RX3) (by decide) rfl (Nat.le_of_ble_eq_true rfl) (fun X hX => ?_)
  show xs X cA RX3 cX3_isOvertaken 3 (some .boolean) R_BM_over (wd ad cA s) 0 0 0 [(0, .ref (ad 0)), (1, .int (zs a))] []
  refine xs_aload_n 0 dX3_isOvertaken_0 rfl ?_
  refine g_BM_bins dX3_isOvertaken_1 ?_
  refine xs_iload_n 1 dX3_isOvertaken_4 rfl ?_
  refine k_Bi_next dX3_isOvertaken_5 kw_BM_Bi_next (by decide) (Nat.le_of_ble_eq_true rfl) ?_
  refine xs_istore_n (L' := [(2, _), (0, _), (1, _)]) dX3_isOvertaken_8 (by decide) rfl ?_
  refine xs_aload_n 1 dX3_isOvertaken_9 rfl ?_
  refine g_BM_mode dX3_isOvertaken_10 ?_
  refine xs_iconst (v := 2) dX3_isOvertaken_13 (by decide) ?_
  refine xs_icmp_eq (t := 44) dX3_isOvertaken_14 (by decide) (fun c14 => ?_) (fun c14 => ?_)
  · refine xs_iconst (v := zb false) dX3_isOvertaken_44 rfl ?_
    exact xs_zret hX rfl dX3_isOvertaken_45 (by simp [mBM_over, c14]) rfl
  · refine xs_iload_n 0 dX3_isOvertaken_17 rfl ?_
    refine xs_sif_eq (t := 44) dX3_isOvertaken_18 (by decide) (fun c18 => ?_) (fun c18 => ?_)
    · refine xs_iconst (v := zb false) dX3_isOvertaken_44 rfl ?_
      exact xs_zret hX rfl dX3_isOvertaken_45 (by simp [mBM_over, c14, c18]) rfl
    · refine xs_aload_n 1 dX3_isOvertaken_21 rfl ?_
      refine g_BM_line dX3_isOvertaken_22 ?_
      refine xs_iload_n 0 dX3_isOvertaken_25 rfl ?_
      refine k_Ln_rankOf dX3_isOvertaken_26 kw_BM_Ln_rankOf (by decide) (Nat.le_of_ble_eq_true rfl) ?_
      refine xs_aload_n 1 dX3_isOvertaken_29 rfl ?_
      refine g_BM_line dX3_isOvertaken_30 ?_
      refine xs_iload_n 2 dX3_isOvertaken_33 rfl ?_
      refine k_Ln_rankOf dX3_isOvertaken_34 kw_BM_Ln_rankOf (by decide) (Nat.le_of_ble_eq_true rfl) ?_
      refine xs_icmp_ge (t := 44) dX3_isOvertaken_37 (by decide) (fun c37 => ?_) (fun c37 => ?_)
      · refine xs_iconst (v := zb false) dX3_isOvertaken_44 rfl ?_
        exact xs_zret hX rfl dX3_isOvertaken_45 (by simp [mBM_over, c14, c18, c37]) rfl
      · refine xs_iconst (v := zb true) dX3_isOvertaken_40 rfl ?_
        refine xs_goto (t := 45) dX3_isOvertaken_41 (by decide) ?_
        exact xs_zret hX rfl dX3_isOvertaken_45 (by simp [mBM_over, c14, c18, c37]) rfl
theorem k_BM_over {X : xz_X} {cA : ClassId} {own : String} {ad : Nat → Nat} {cc : ByteArray} {nL : Nat} {ret : Option FieldType} {R : Room} {s : zT} {pc ix : Nat} {L : List (Nat × Value)} {st : List Value} {a : zS} (d : decode cc pc = .ok (.invokevirtual ix, 3)) (hw : xwV own ix yX3_isOvertaken cX3_isOvertaken 3 (some .boolean) 1) (hR : xroom R_BM_over 3 R) (hst : (st.map fun v => v.category).sum ≤ 8) (kk : xs X cA own cc nL ret R (wd ad cA (s)) 0 0 (pc + 3) L (.int (zb (mBM_over s a)) :: st)) : xs X cA own cc nL ret R (wd ad cA s) 0 0 pc L (.int (zs a) :: .ref (ad 0) :: st) :=
  xs_call 0 (c_BM_over ad cA s a) rfl rfl d hw hR rfl rfl rfl hst ⟨Nat.zero_le _, Nat.zero_le _⟩ kk
abbrev R_BM_fb : Room := { frames := 3, cells := 0, slots := 0, locals := 67 }
set_option maxRecDepth 100000 in
theorem kw_BM_Ln_rank : xwV RX3 133 yX1_rank cX1_rank 3 none 0 := ⟨⟨xt_of (List.mem_of_getElem? (i := 289) rfl) rfl, xt_of (by decide +kernel) rfl, xt_of (by decide +kernel) rfl, by decide +kernel⟩, xt_of (by decide +kernel) rfl, xt_of (by decide +kernel) rfl⟩
set_option maxRecDepth 100000 in
theorem kw_BM_Bi_keyOf : xwV RX3 87 yX0_keyOf cX0_keyOf 2 (some .int) 1 := ⟨⟨xt_of (List.mem_of_getElem? (i := 219) rfl) rfl, xt_of (by decide +kernel) rfl, xt_of (by decide +kernel) rfl, by decide +kernel⟩, xt_of (by decide +kernel) rfl, xt_of (by decide +kernel) rfl⟩
set_option maxRecDepth 100000 in
theorem kw_BM_Bi_find : xwV RX3 52 yX0_slotOf cX0_slotOf 5 (some .int) 1 := ⟨⟨xt_of (List.mem_of_getElem? (i := 159) rfl) rfl, xt_of (by decide +kernel) rfl, xt_of (by decide +kernel) rfl, by decide +kernel⟩, xt_of (by decide +kernel) rfl, xt_of (by decide +kernel) rfl⟩
set_option maxRecDepth 100000 in
theorem kw_BM_BM_over : xwV RX3 136 yX3_isOvertaken cX3_isOvertaken 3 (some .boolean) 1 := ⟨⟨xt_of (List.mem_of_getElem? (i := 293) rfl) rfl, xt_of (by decide +kernel) rfl, xt_of (by decide +kernel) rfl, by decide +kernel⟩, xt_of (by decide +kernel) rfl, xt_of (by decide +kernel) rfl⟩
set_option maxHeartbeats 4000000 in
set_option maxRecDepth 100000 in
theorem t_BM_fb {X : xz_X} {ad : Nat → Nat} {cA : ClassId} {s : zT} (hr : rok s) : ∀ (n i : Nat) (x : Int32) (a : zS), i + n = (s.2 4 2).toNatClampNeg → xfin X cA 0 0 (some (.int (mBM_fbL s n x a))) (wd ad cA (s)) → xs X cA RX3 cX3_faultsBetween 4 (some .int) R_BM_fb (wd ad cA s) 0 0 19 [(3, .int (nI i)), (2, .int (zs a)), (1, .int x), (0, .ref (ad 0))] [] := by
  intro n
  induction n with
  | zero =>
    intro i x a hi hX
    refine xs_iload_n 0 dX3_faultsBetween_19 rfl ?_
    refine xs_aload_n 3 dX3_faultsBetween_20 rfl ?_
    refine g_BM_line dX3_faultsBetween_21 ?_
    refine k_Ln_count dX3_faultsBetween_24 kw_BM_Ln_count (by decide) (Nat.le_of_ble_eq_true rfl) ?_
    refine xs_icmp_ge (t := 78) dX3_faultsBetween_27 (by decide) (fun c27 => ?_) (fun c27 => ?_)
    · refine xs_iload_n 2 dX3_faultsBetween_78 rfl ?_
      exact xs_iret hX rfl dX3_faultsBetween_79 rfl rfl
    · exact absurd (cnt_le (by omega) (by have := cnt_lt31 (s.2 4 2); omega)) c27
  | succ n ih =>
    intro i x a hi hX
    refine xs_iload_n 0 dX3_faultsBetween_19 rfl ?_
    refine xs_aload_n 3 dX3_faultsBetween_20 rfl ?_
    refine g_BM_line dX3_faultsBetween_21 ?_
    refine k_Ln_count dX3_faultsBetween_24 kw_BM_Ln_count (by decide) (Nat.le_of_ble_eq_true rfl) ?_
    refine xs_icmp_ge (t := 78) dX3_faultsBetween_27 (by decide) (fun c27 => ?_) (fun c27 => ?_)
    · exact absurd c27 (cnt_nle (by omega))
    · refine xs_aload_n 3 dX3_faultsBetween_30 rfl ?_
      refine g_BM_bins dX3_faultsBetween_31 ?_
      refine xs_aload_n 3 dX3_faultsBetween_34 rfl ?_
      refine g_BM_bins dX3_faultsBetween_35 ?_
      refine xs_iload_n 1 dX3_faultsBetween_38 rfl ?_
      refine k_Bi_keyOf dX3_faultsBetween_39 kw_BM_Bi_keyOf (by decide) (Nat.le_of_ble_eq_true rfl) ?_
      refine k_Bi_find dX3_faultsBetween_42 kw_BM_Bi_find (by decide) (Nat.le_of_ble_eq_true rfl) hr ?_
      refine xs_iload_n 1 dX3_faultsBetween_45 rfl ?_
      refine xs_scmp_eq (t := 52) dX3_faultsBetween_46 (by decide) (fun c46 => ?_) (fun c46 => ?_)
      · refine xs_aload_n 3 dX3_faultsBetween_52 rfl ?_
        refine xs_iload_n 1 dX3_faultsBetween_53 rfl ?_
        refine k_BM_over dX3_faultsBetween_54 kw_BM_BM_over (by decide) (Nat.le_of_ble_eq_true rfl) ?_
        refine xs_bif_eq (t := 63) dX3_faultsBetween_57 (by decide) (fun c57 => ?_) (fun c57 => ?_)
        · refine xs_aload_n 3 dX3_faultsBetween_63 rfl ?_
          refine g_BM_line dX3_faultsBetween_64 ?_
          refine xs_iload_n 1 dX3_faultsBetween_67 rfl ?_
          refine k_Ln_behind dX3_faultsBetween_68 kw_BM_Ln_behind (by decide) (Nat.le_of_ble_eq_true rfl) ?_
          refine xs_istore_n (L' := [(2, _), (3, _), (1, _), (0, _)]) dX3_faultsBetween_71 (by decide) rfl ?_
          refine xs_iinc_n (L' := [(3, _), (2, _), (1, _), (0, _)]) 1 dX3_faultsBetween_72 rfl (by decide) rfl ?_
          refine xs_goto (t := 19) dX3_faultsBetween_75 (by decide) ?_
          refine xs_sub (L' := [(3, _), (2, _), (1, _), (0, _)]) [0, 1, 2, 3] rfl ?_
          exact ih _ _ _ (by omega) (by simp only [mBM_fbL, mBM_fbL1, if_neg c27, if_pos c46, c57, ↓reduceIte, Bool.false_eq_true] at hX; exact hX)
        · refine xs_iinc_1 (L' := [(1, _), (3, _), (2, _), (0, _)]) 2 dX3_faultsBetween_60 rfl (by decide) rfl ?_
          refine xs_aload_n 3 dX3_faultsBetween_63 rfl ?_
          refine g_BM_line dX3_faultsBetween_64 ?_
          refine xs_iload_n 2 dX3_faultsBetween_67 rfl ?_
          refine k_Ln_behind dX3_faultsBetween_68 kw_BM_Ln_behind (by decide) (Nat.le_of_ble_eq_true rfl) ?_
          refine xs_istore_n (L' := [(2, _), (1, _), (3, _), (0, _)]) dX3_faultsBetween_71 (by decide) rfl ?_
          refine xs_iinc_n (L' := [(3, _), (2, _), (1, _), (0, _)]) 2 dX3_faultsBetween_72 rfl (by decide) rfl ?_
          refine xs_goto (t := 19) dX3_faultsBetween_75 (by decide) ?_
          refine xs_sub (L' := [(3, _), (2, _), (1, _), (0, _)]) [0, 1, 2, 3] rfl ?_
          exact ih _ _ _ (by omega) (by simp only [mBM_fbL, mBM_fbL1, if_neg c27, if_pos c46, c57, ↓reduceIte, Bool.false_eq_true] at hX; exact hX)
      · refine xs_iinc_1 (L' := [(1, _), (3, _), (2, _), (0, _)]) 2 dX3_faultsBetween_49 rfl (by decide) rfl ?_
        refine xs_aload_n 3 dX3_faultsBetween_52 rfl ?_
        refine xs_iload_n 2 dX3_faultsBetween_53 rfl ?_
        refine k_BM_over dX3_faultsBetween_54 kw_BM_BM_over (by decide) (Nat.le_of_ble_eq_true rfl) ?_
        refine xs_bif_eq (t := 63) dX3_faultsBetween_57 (by decide) (fun c57 => ?_) (fun c57 => ?_)
        · refine xs_aload_n 3 dX3_faultsBetween_63 rfl ?_
          refine g_BM_line dX3_faultsBetween_64 ?_
          refine xs_iload_n 2 dX3_faultsBetween_67 rfl ?_
          refine k_Ln_behind dX3_faultsBetween_68 kw_BM_Ln_behind (by decide) (Nat.le_of_ble_eq_true rfl) ?_
          refine xs_istore_n (L' := [(2, _), (1, _), (3, _), (0, _)]) dX3_faultsBetween_71 (by decide) rfl ?_
          refine xs_iinc_n (L' := [(3, _), (2, _), (1, _), (0, _)]) 2 dX3_faultsBetween_72 rfl (by decide) rfl ?_
          refine xs_goto (t := 19) dX3_faultsBetween_75 (by decide) ?_
          refine xs_sub (L' := [(3, _), (2, _), (1, _), (0, _)]) [0, 1, 2, 3] rfl ?_
          exact ih _ _ _ (by omega) (by simp only [mBM_fbL, mBM_fbL1, if_neg c27, if_neg c46, c57, ↓reduceIte, Bool.false_eq_true] at hX; exact hX)
        · refine xs_iinc_1 (L' := [(1, _), (3, _), (2, _), (0, _)]) 0 dX3_faultsBetween_60 rfl (by decide) rfl ?_
          refine xs_aload_n 3 dX3_faultsBetween_63 rfl ?_
          refine g_BM_line dX3_faultsBetween_64 ?_
          refine xs_iload_n 2 dX3_faultsBetween_67 rfl ?_
          refine k_Ln_behind dX3_faultsBetween_68 kw_BM_Ln_behind (by decide) (Nat.le_of_ble_eq_true rfl) ?_
          refine xs_istore_n (L' := [(2, _), (1, _), (3, _), (0, _)]) dX3_faultsBetween_71 (by decide) rfl ?_
          refine xs_iinc_n (L' := [(3, _), (2, _), (1, _), (0, _)]) 2 dX3_faultsBetween_72 rfl (by decide) rfl ?_
          refine xs_goto (t := 19) dX3_faultsBetween_75 (by decide) ?_
          refine xs_sub (L' := [(3, _), (2, _), (1, _), (0, _)]) [0, 1, 2, 3] rfl ?_
          exact ih _ _ _ (by omega) (by simp only [mBM_fbL, mBM_fbL1, if_neg c27, if_neg c46, c57, ↓reduceIte, Bool.false_eq_true] at hX; exact hX)
set_option maxHeartbeats 4000000 in
set_option maxRecDepth 100000 in
theorem c_BM_fb (ad : Nat → Nat) (cA : ClassId) (s : zT) (hr : rok s) : xct cA yX3_faultsBetween cX3_faultsBetween 4 (some .int) R_BM_fb [.ref (ad 0)] (wd ad cA s) (some (.int ((mBM_fb s).1))) (wd ad cA ((mBM_fb s).2)) := by
  refine xct_of (own := RX3) (by decide) rfl (Nat.le_of_ble_eq_true rfl) (fun X hX => ?_)
  show xs X cA RX3 cX3_faultsBetween 4 (some .int) R_BM_fb (wd ad cA s) 0 0 0 [(0, .ref (ad 0))] []
  refine xs_iconst (v := 0) dX3_faultsBetween_0 (by decide) ?_
  refine xs_istore_n (L' := [(1, _), (0, _)]) dX3_faultsBetween_1 (by decide) rfl ?_
  refine xs_aload_n 1 dX3_faultsBetween_2 rfl ?_
  refine g_BM_line dX3_faultsBetween_3 ?_
  refine k_Ln_rank dX3_faultsBetween_6 kw_BM_Ln_rank (by decide) (Nat.le_of_ble_eq_true rfl) ?_
  refine xs_aload_n 1 dX3_faultsBetween_9 rfl ?_
  refine g_BM_line dX3_faultsBetween_10 ?_
  refine k_Ln_first dX3_faultsBetween_13 kw_BM_Ln_first (by decide) (Nat.le_of_ble_eq_true rfl) ?_
  refine xs_istore_n (L' := [(2, _), (1, _), (0, _)]) dX3_faultsBetween_16 (by decide) rfl ?_
  refine xs_iconst (v := nI 0) dX3_faultsBetween_17 rfl ?_
  refine xs_istore_n (L' := [(3, _), (2, _), (1, _), (0, _)]) dX3_faultsBetween_18 (by decide) rfl ?_
  refine xs_sub (L' := [(3, _), (2, _), (1, _), (0, _)]) [0, 1, 2, 3] rfl ?_
  exact t_BM_fb (rok_rank hr) _ 0 _ _ (Nat.zero_add _) hX
theorem k_BM_fb {X : xz_X} {cA : ClassId} {own : String} {ad : Nat → Nat} {cc : ByteArray} {nL : Nat} {ret : Option FieldType} {R : Room} {s : zT} {pc ix : Nat} {L : List (Nat × Value)} {st : List Value} (d : decode cc pc = .ok (.invokevirtual ix, 3)) (hw : xwV own ix yX3_faultsBetween cX3_faultsBetween 4 (some .int) 0) (hR : xroom R_BM_fb 4 R) (hst : (st.map fun v => v.category).sum ≤ 8) (hr : rok s) (kk : xs X cA own cc nL ret R (wd ad cA ((mBM_fb s).2)) 0 0 (pc + 3) L (.int ((mBM_fb s).1) :: st)) : xs X cA own cc nL ret R (wd ad cA s) 0 0 pc L (.ref (ad 0) :: st) :=
  xs_call 0 (c_BM_fb ad cA s hr) rfl rfl d hw hR rfl rfl rfl hst ⟨Nat.zero_le _, Nat.zero_le _⟩ kk
abbrev R_BM_wrong : Room := { frames := 5, cells := 0, slots := 0, locals := 124 }
set_option maxRecDepth 100000 in
theorem kw_BM_Ln_faults : xwV RX3 91 yX1_faults cX1_faults 5 (some .int) 0 := ⟨⟨xt_of (List.mem_of_getElem? (i := 240) rfl) rfl, xt_of (by decide +kernel) rfl, xt_of (by decide +kernel) rfl, by decide +kernel⟩, xt_of (by decide +kernel) rfl, xt_of (by decide +kernel) rfl⟩
set_option maxRecDepth 100000 in
theorem kw_BM_Bi_faults : xwV RX3 94 yX0_faults cX0_faults 5 (some .int) 1 := ⟨⟨xt_of (List.mem_of_getElem? (i := 248) rfl) rfl, xt_of (by decide +kernel) rfl, xt_of (by decide +kernel) rfl, by decide +kernel⟩, xt_of (by decide +kernel) rfl, xt_of (by decide +kernel) rfl⟩
set_option maxRecDepth 100000 in
theorem kw_BM_BM_fb : xwV RX3 96 yX3_faultsBetween cX3_faultsBetween 4 (some .int) 0 := ⟨⟨xt_of (List.mem_of_getElem? (i := 285) rfl) rfl, xt_of (by decide +kernel) rfl, xt_of (by decide +kernel) rfl, by decide +kernel⟩, xt_of (by decide +kernel) rfl, xt_of (by decide +kernel) rfl⟩
set_option maxHeartbeats 4000000 in
set_option maxRecDepth 100000 in
theorem c_BM_wrong (ad : Nat → Nat) (cA : ClassId) (s : zT) (hr : rok s) : xct cA yX3_wrong cX3_wrong 3 (some .int) R_BM_wrong [.ref (ad 0)] (wd ad cA s) (some (.int ((mBM_wrong s).1))) (wd ad cA ((mBM_wrong s).2)) := by
  refine xct_of (own := RX3) (by decide) rfl (Nat.le_of_ble_eq_true rfl) (fun X hX => ?_)
  show xs X cA RX3 cX3_wrong 3 (some .int) R_BM_wrong (wd ad cA s) 0 0 0 [(0, .ref (ad 0))] []
  refine xs_aload_n 0 dX3_wrong_0 rfl ?_
  refine g_BM_line dX3_wrong_1 ?_
  refine k_Ln_faults dX3_wrong_4 kw_BM_Ln_faults (by decide) (Nat.le_of_ble_eq_true rfl) ?_
  refine xs_aload_n 0 dX3_wrong_7 rfl ?_
  refine g_BM_bins dX3_wrong_8 ?_
  refine xs_aload_n 0 dX3_wrong_11 rfl ?_
  refine g_BM_line dX3_wrong_12 ?_
  refine k_Ln_count dX3_wrong_15 kw_BM_Ln_count (by decide) (Nat.le_of_ble_eq_true rfl) ?_
  refine k_Bi_faults dX3_wrong_18 kw_BM_Bi_faults (by decide) (Nat.le_of_ble_eq_true rfl) hr ?_
  refine xs_iadd dX3_wrong_21 ?_
  refine xs_istore_n (L' := [(1, _), (0, _)]) dX3_wrong_22 (by decide) rfl ?_
  refine xs_aload_n 1 dX3_wrong_23 rfl ?_
  refine g_BM_mode dX3_wrong_24 ?_
  refine xs_iconst (v := 2) dX3_wrong_27 (by decide) ?_
  refine xs_icmp_ne (t := 38) dX3_wrong_28 (by decide) (fun c28 => ?_) (fun c28 => ?_)
  · refine xs_sipush (v := 2000) dX3_wrong_38 (by decide) ?_
    refine xs_istore_n (L' := [(2, _), (1, _), (0, _)]) dX3_wrong_41 (by decide) rfl ?_
    refine xs_iload_n 1 dX3_wrong_42 rfl ?_
    refine xs_aload_n 2 dX3_wrong_43 rfl ?_
    refine k_BM_fb dX3_wrong_44 kw_BM_BM_fb (by decide) (Nat.le_of_ble_eq_true rfl) hr ?_
    refine xs_iadd dX3_wrong_47 ?_
    refine xs_aload_n 2 dX3_wrong_48 rfl ?_
    refine g_BM_line dX3_wrong_49 ?_
    refine k_Ln_count dX3_wrong_52 kw_BM_Ln_count (by decide) (Nat.le_of_ble_eq_true rfl) ?_
    refine xs_iload_n 0 dX3_wrong_55 rfl ?_
    refine xs_icmp_le (t := 63) dX3_wrong_56 (by decide) (fun c56 => ?_) (fun c56 => ?_)
    · refine xs_iconst (v := 0) dX3_wrong_63 (by decide) ?_
      refine xs_iadd dX3_wrong_64 ?_
      exact xs_iret hX rfl dX3_wrong_65 (by simp only [mBM_wrong, if_neg c28, if_pos c56]) (by simp only [mBM_wrong, if_neg c28, if_pos c56])
    · refine xs_iconst (v := 1) dX3_wrong_59 (by decide) ?_
      refine xs_goto (t := 64) dX3_wrong_60 (by decide) ?_
      refine xs_iadd dX3_wrong_64 ?_
      exact xs_iret hX rfl dX3_wrong_65 (by simp only [mBM_wrong, if_neg c28, if_neg c56]) (by simp only [mBM_wrong, if_neg c28, if_neg c56])
  · refine xs_aload_n 1 dX3_wrong_31 rfl ?_
    refine g_BM_most dX3_wrong_32 ?_
    refine xs_goto (t := 41) dX3_wrong_35 (by decide) ?_
    refine xs_istore_n (L' := [(2, _), (1, _), (0, _)]) dX3_wrong_41 (by decide) rfl ?_
    refine xs_iload_n 1 dX3_wrong_42 rfl ?_
    refine xs_aload_n 2 dX3_wrong_43 rfl ?_
    refine k_BM_fb dX3_wrong_44 kw_BM_BM_fb (by decide) (Nat.le_of_ble_eq_true rfl) hr ?_
    refine xs_iadd dX3_wrong_47 ?_
    refine xs_aload_n 2 dX3_wrong_48 rfl ?_
    refine g_BM_line dX3_wrong_49 ?_
    refine k_Ln_count dX3_wrong_52 kw_BM_Ln_count (by decide) (Nat.le_of_ble_eq_true rfl) ?_
    refine xs_iload_n 0 dX3_wrong_55 rfl ?_
    refine xs_icmp_le (t := 63) dX3_wrong_56 (by decide) (fun c56 => ?_) (fun c56 => ?_)
    · refine xs_iconst (v := 0) dX3_wrong_63 (by decide) ?_
      refine xs_iadd dX3_wrong_64 ?_
      exact xs_iret hX rfl dX3_wrong_65 (by simp only [mBM_wrong, if_pos c28, if_pos c56]) (by simp only [mBM_wrong, if_pos c28, if_pos c56])
    · refine xs_iconst (v := 1) dX3_wrong_59 (by decide) ?_
      refine xs_goto (t := 64) dX3_wrong_60 (by decide) ?_
      refine xs_iadd dX3_wrong_64 ?_
      exact xs_iret hX rfl dX3_wrong_65 (by simp only [mBM_wrong, if_pos c28, if_neg c56]) (by simp only [mBM_wrong, if_pos c28, if_neg c56])
theorem k_BM_wrong {X : xz_X} {cA : ClassId} {own : String} {ad : Nat → Nat} {cc : ByteArray} {nL : Nat} {ret : Option FieldType} {R : Room} {s : zT} {pc ix : Nat} {L : List (Nat × Value)} {st : List Value} (d : decode cc pc = .ok (.invokevirtual ix, 3)) (hw : xwV own ix yX3_wrong cX3_wrong 3 (some .int) 0) (hR : xroom R_BM_wrong 3 R) (hst : (st.map fun v => v.category).sum ≤ 8) (hr : rok s) (kk : xs X cA own cc nL ret R (wd ad cA ((mBM_wrong s).2)) 0 0 (pc + 3) L (.int ((mBM_wrong s).1) :: st)) : xs X cA own cc nL ret R (wd ad cA s) 0 0 pc L (.ref (ad 0) :: st) :=
  xs_call 0 (c_BM_wrong ad cA s hr) rfl rfl d hw hR rfl rfl rfl hst ⟨Nat.zero_le _, Nat.zero_le _⟩ kk
abbrev R_BM_size : Room := { frames := 1, cells := 0, slots := 0, locals := 20 }
set_option maxHeartbeats 4000000 in
set_option maxRecDepth 100000 in
theorem c_BM_size (ad : Nat → Nat) (cA : ClassId) (s : zT) : xct cA yX3_size cX3_size 1 (some .int) R_BM_size [.ref (ad 0)] (wd ad cA s) (some (.int (s.2 4 2))) (wd ad cA (s)) := by
  refine xct_of (own := RX3) (by decide) rfl (Nat.le_of_ble_eq_true rfl) (fun X hX => ?_)
  show xs X cA RX3 cX3_size 1 (some .int) R_BM_size (wd ad cA s) 0 0 0 [(0, .ref (ad 0))] []
  refine xs_aload_n 0 dX3_size_0 rfl ?_
  refine g_BM_line dX3_size_1 ?_
  refine k_Ln_count dX3_size_4 kw_BM_Ln_count (by decide) (Nat.le_of_ble_eq_true rfl) ?_
  exact xs_iret hX rfl dX3_size_7 rfl rfl
theorem k_BM_size {X : xz_X} {cA : ClassId} {own : String} {ad : Nat → Nat} {cc : ByteArray} {nL : Nat} {ret : Option FieldType} {R : Room} {s : zT} {pc ix : Nat} {L : List (Nat × Value)} {st : List Value} (d : decode cc pc = .ok (.invokevirtual ix, 3)) (hw : xwV own ix yX3_size cX3_size 1 (some .int) 0) (hR : xroom R_BM_size 1 R) (hst : (st.map fun v => v.category).sum ≤ 8) (kk : xs X cA own cc nL ret R (wd ad cA (s)) 0 0 (pc + 3) L (.int (s.2 4 2) :: st)) : xs X cA own cc nL ret R (wd ad cA s) 0 0 pc L (.ref (ad 0) :: st) :=
  xs_call 0 (c_BM_size ad cA s) rfl rfl d hw hR rfl rfl rfl hst ⟨Nat.zero_le _, Nat.zero_le _⟩ kk
abbrev R_BM_clear : Room := { frames := 2, cells := 0, slots := 0, locals := 43 }
set_option maxRecDepth 100000 in
theorem kw_BM_Ln_drain : xwV RX3 45 yX1_drain cX1_drain 1 none 0 := ⟨⟨xt_of (List.mem_of_getElem? (i := 192) rfl) rfl, xt_of (by decide +kernel) rfl, xt_of (by decide +kernel) rfl, by decide +kernel⟩, xt_of (by decide +kernel) rfl, xt_of (by decide +kernel) rfl⟩
set_option maxRecDepth 100000 in
theorem kw_BM_Bi_drain : xwV RX3 90 yX0_drain cX0_drain 1 none 0 := ⟨⟨xt_of (List.mem_of_getElem? (i := 196) rfl) rfl, xt_of (by decide +kernel) rfl, xt_of (by decide +kernel) rfl, by decide +kernel⟩, xt_of (by decide +kernel) rfl, xt_of (by decide +kernel) rfl⟩
set_option maxHeartbeats 4000000 in
set_option maxRecDepth 100000 in
theorem c_BM_clear (ad : Nat → Nat) (cA : ClassId) (s : zT) : xct cA yX3_clear cX3_clear 2 (some .int) R_BM_clear [.ref (ad 0)] (wd ad cA s) (some (.int (s.2 4 2))) (wd ad cA (mBi_drain (mLn_drain s))) := by
  refine xct_of (own := RX3) (by decide) rfl (Nat.le_of_ble_eq_true rfl) (fun X hX => ?_)
  show xs X cA RX3 cX3_clear 2 (some .int) R_BM_clear (wd ad cA s) 0 0 0 [(0, .ref (ad 0))] []
  refine xs_aload_n 0 dX3_clear_0 rfl ?_
  refine g_BM_line dX3_clear_1 ?_
  refine k_Ln_count dX3_clear_4 kw_BM_Ln_count (by decide) (Nat.le_of_ble_eq_true rfl) ?_
  refine xs_istore_n (L' := [(1, _), (0, _)]) dX3_clear_7 (by decide) rfl ?_
  refine xs_aload_n 1 dX3_clear_8 rfl ?_
  refine g_BM_line dX3_clear_9 ?_
  refine k_Ln_drain dX3_clear_12 kw_BM_Ln_drain (by decide) (Nat.le_of_ble_eq_true rfl) ?_
  refine xs_aload_n 1 dX3_clear_15 rfl ?_
  refine g_BM_bins dX3_clear_16 ?_
  refine k_Bi_drain dX3_clear_19 kw_BM_Bi_drain (by decide) (Nat.le_of_ble_eq_true rfl) ?_
  refine xs_iload_n 0 dX3_clear_22 rfl ?_
  exact xs_iret hX rfl dX3_clear_23 rfl rfl
theorem k_BM_clear {X : xz_X} {cA : ClassId} {own : String} {ad : Nat → Nat} {cc : ByteArray} {nL : Nat} {ret : Option FieldType} {R : Room} {s : zT} {pc ix : Nat} {L : List (Nat × Value)} {st : List Value} (d : decode cc pc = .ok (.invokevirtual ix, 3)) (hw : xwV own ix yX3_clear cX3_clear 2 (some .int) 0) (hR : xroom R_BM_clear 2 R) (hst : (st.map fun v => v.category).sum ≤ 8) (kk : xs X cA own cc nL ret R (wd ad cA (mBi_drain (mLn_drain s))) 0 0 (pc + 3) L (.int (s.2 4 2) :: st)) : xs X cA own cc nL ret R (wd ad cA s) 0 0 pc L (.ref (ad 0) :: st) :=
  xs_call 0 (c_BM_clear ad cA s) rfl rfl d hw hR rfl rfl rfl hst ⟨Nat.zero_le _, Nat.zero_le _⟩ kk
abbrev R_BM_has : Room := { frames := 3, cells := 0, slots := 0, locals := 67 }
set_option maxHeartbeats 4000000 in
set_option maxRecDepth 100000 in
theorem c_BM_has (ad : Nat → Nat) (cA : ClassId) (s : zT) (key : Int32) (hr : rok s) : xct cA yX3_has cX3_has 2 (some .boolean) R_BM_has [.ref (ad 0), .int key] (wd ad cA s) (some (.int (zb (!decide (mBi_find s key = 0))))) (wd ad cA (s)) := by
  refine xct_of (own := RX3) (by decide) rfl (Nat.le_of_ble_eq_true rfl) (fun X hX => ?_)
  show xs X cA RX3 cX3_has 2 (some .boolean) R_BM_has (wd ad cA s) 0 0 0 [(0, .ref (ad 0)), (1, .int key)] []
  refine xs_aload_n 0 dX3_has_0 rfl ?_
  refine g_BM_bins dX3_has_1 ?_
  refine xs_iload_n 1 dX3_has_4 rfl ?_
  refine k_Bi_find dX3_has_5 kw_BM_Bi_find (by decide) (Nat.le_of_ble_eq_true rfl) hr ?_
  refine xs_sif_eq (t := 15) dX3_has_8 (by decide) (fun c8 => ?_) (fun c8 => ?_)
  · refine xs_iconst (v := zb false) dX3_has_15 rfl ?_
    exact xs_zret hX rfl dX3_has_16 (by simp [c8]) rfl
  · refine xs_iconst (v := zb true) dX3_has_11 rfl ?_
    refine xs_goto (t := 16) dX3_has_12 (by decide) ?_
    exact xs_zret hX rfl dX3_has_16 (by simp [c8]) rfl
theorem k_BM_has {X : xz_X} {cA : ClassId} {own : String} {ad : Nat → Nat} {cc : ByteArray} {nL : Nat} {ret : Option FieldType} {R : Room} {s : zT} {pc ix : Nat} {L : List (Nat × Value)} {st : List Value} {key : Int32} (d : decode cc pc = .ok (.invokevirtual ix, 3)) (hw : xwV own ix yX3_has cX3_has 2 (some .boolean) 1) (hR : xroom R_BM_has 2 R) (hst : (st.map fun v => v.category).sum ≤ 8) (hr : rok s) (kk : xs X cA own cc nL ret R (wd ad cA (s)) 0 0 (pc + 3) L (.int (zb (!decide (mBi_find s key = 0))) :: st)) : xs X cA own cc nL ret R (wd ad cA s) 0 0 pc L (.int key :: .ref (ad 0) :: st) :=
  xs_call 0 (c_BM_has ad cA s key hr) rfl rfl d hw hR rfl rfl rfl hst ⟨Nat.zero_le _, Nat.zero_le _⟩ kk
abbrev R_BM_hash : Room := { frames := 4, cells := 0, slots := 0, locals := 85 }
set_option maxRecDepth 100000 in
theorem kw_BM_BM_first : xwV RX3 81 yX3_firstSlot cX3_firstSlot 1 (some .int) 0 := ⟨⟨xt_of (List.mem_of_getElem? (i := 207) rfl) rfl, xt_of (by decide +kernel) rfl, xt_of (by decide +kernel) rfl, by decide +kernel⟩, xt_of (by decide +kernel) rfl, xt_of (by decide +kernel) rfl⟩
set_option maxRecDepth 100000 in
theorem kw_BM_BM_behind : xwV RX3 84 yX3_slotBehind cX3_slotBehind 2 (some .int) 1 := ⟨⟨xt_of (List.mem_of_getElem? (i := 223) rfl) rfl, xt_of (by decide +kernel) rfl, xt_of (by decide +kernel) rfl, by decide +kernel⟩, xt_of (by decide +kernel) rfl, xt_of (by decide +kernel) rfl⟩
set_option maxHeartbeats 4000000 in
set_option maxRecDepth 100000 in
theorem t_BM_hash {X : xz_X} {ad : Nat → Nat} {cA : ClassId} {s : zT} (hr : rok s) : ∀ (n i : Nat) (x : Int32) (a : zS), i + n = (s.2 4 2).toNatClampNeg → xfin X cA 0 0 (some (.int (mBM_hashL s n x a))) (wd ad cA (s)) → xs X cA RX3 cX3_hash 4 (some .int) R_BM_hash (wd ad cA s) 0 0 9 [(3, .int (nI i)), (2, .int (zs a)), (1, .int x), (0, .ref (ad 0))] [] := by
  intro n
  induction n with
  | zero =>
    intro i x a hi hX
    refine xs_iload_n 0 dX3_hash_9 rfl ?_
    refine xs_aload_n 3 dX3_hash_10 rfl ?_
    refine g_BM_line dX3_hash_11 ?_
    refine k_Ln_count dX3_hash_14 kw_BM_Ln_count (by decide) (Nat.le_of_ble_eq_true rfl) ?_
    refine xs_icmp_ge (t := 58) dX3_hash_17 (by decide) (fun c17 => ?_) (fun c17 => ?_)
    · refine xs_iload_n 2 dX3_hash_58 rfl ?_
      exact xs_iret hX rfl dX3_hash_59 rfl rfl
    · exact absurd (cnt_le (by omega) (by have := cnt_lt31 (s.2 4 2); omega)) c17
  | succ n ih =>
    intro i x a hi hX
    refine xs_iload_n 0 dX3_hash_9 rfl ?_
    refine xs_aload_n 3 dX3_hash_10 rfl ?_
    refine g_BM_line dX3_hash_11 ?_
    refine k_Ln_count dX3_hash_14 kw_BM_Ln_count (by decide) (Nat.le_of_ble_eq_true rfl) ?_
    refine xs_icmp_ge (t := 58) dX3_hash_17 (by decide) (fun c17 => ?_) (fun c17 => ?_)
    · exact absurd c17 (cnt_nle (by omega))
    · refine xs_bipush (v := 31) dX3_hash_20 (by decide) ?_
      refine xs_iload_n 2 dX3_hash_22 rfl ?_
      refine xs_imul dX3_hash_23 ?_
      refine xs_aload_n 3 dX3_hash_24 rfl ?_
      refine g_BM_bins dX3_hash_25 ?_
      refine xs_iload_n 1 dX3_hash_28 rfl ?_
      refine k_Bi_keyOf dX3_hash_29 kw_BM_Bi_keyOf (by decide) (Nat.le_of_ble_eq_true rfl) ?_
      refine xs_iadd dX3_hash_32 ?_
      refine xs_istore_n (L' := [(1, _), (3, _), (2, _), (0, _)]) dX3_hash_33 (by decide) rfl ?_
      refine xs_bipush (v := 31) dX3_hash_34 (by decide) ?_
      refine xs_iload_n 0 dX3_hash_36 rfl ?_
      refine xs_imul dX3_hash_37 ?_
      refine xs_aload_n 3 dX3_hash_38 rfl ?_
      refine g_BM_numbers dX3_hash_39 ?_
      refine xs_iload_n 2 dX3_hash_42 rfl ?_
      refine al_I3 dX3_hash_43 ?_
      refine xs_iadd dX3_hash_44 ?_
      refine xs_istore_n (L' := [(1, _), (3, _), (2, _), (0, _)]) dX3_hash_45 (by decide) rfl ?_
      refine xs_aload_n 3 dX3_hash_46 rfl ?_
      refine xs_iload_n 2 dX3_hash_47 rfl ?_
      refine k_BM_behind dX3_hash_48 kw_BM_BM_behind (by decide) (Nat.le_of_ble_eq_true rfl) hr ?_
      refine xs_istore_n (L' := [(2, _), (1, _), (3, _), (0, _)]) dX3_hash_51 (by decide) rfl ?_
      refine xs_iinc_n (L' := [(3, _), (2, _), (1, _), (0, _)]) 2 dX3_hash_52 rfl (by decide) rfl ?_
      refine xs_goto (t := 9) dX3_hash_55 (by decide) ?_
      refine xs_sub (L' := [(3, _), (2, _), (1, _), (0, _)]) [0, 1, 2, 3] rfl ?_
      exact ih _ _ _ (by omega) hX
set_option maxHeartbeats 4000000 in
set_option maxRecDepth 100000 in
theorem c_BM_hash (ad : Nat → Nat) (cA : ClassId) (s : zT) (hr : rok s) : xct cA yX3_hash cX3_hash 4 (some .int) R_BM_hash [.ref (ad 0)] (wd ad cA s) (some (.int (mBM_hash s))) (wd ad cA (s)) := by
  refine xct_of (own := RX3) (by decide) rfl (Nat.le_of_ble_eq_true rfl) (fun X hX => ?_)
  show xs X cA RX3 cX3_hash 4 (some .int) R_BM_hash (wd ad cA s) 0 0 0 [(0, .ref (ad 0))] []
  refine xs_iconst (v := 1) dX3_hash_0 (by decide) ?_
  refine xs_istore_n (L' := [(1, _), (0, _)]) dX3_hash_1 (by decide) rfl ?_
  refine xs_aload_n 1 dX3_hash_2 rfl ?_
  refine k_BM_first dX3_hash_3 kw_BM_BM_first (by decide) (Nat.le_of_ble_eq_true rfl) hr ?_
  refine xs_istore_n (L' := [(2, _), (1, _), (0, _)]) dX3_hash_6 (by decide) rfl ?_
  refine xs_iconst (v := nI 0) dX3_hash_7 rfl ?_
  refine xs_istore_n (L' := [(3, _), (2, _), (1, _), (0, _)]) dX3_hash_8 (by decide) rfl ?_
  refine xs_sub (L' := [(3, _), (2, _), (1, _), (0, _)]) [0, 1, 2, 3] rfl ?_
  exact t_BM_hash hr _ 0 _ _ (Nat.zero_add _) hX
theorem k_BM_hash {X : xz_X} {cA : ClassId} {own : String} {ad : Nat → Nat} {cc : ByteArray} {nL : Nat} {ret : Option FieldType} {R : Room} {s : zT} {pc ix : Nat} {L : List (Nat × Value)} {st : List Value} (d : decode cc pc = .ok (.invokevirtual ix, 3)) (hw : xwV own ix yX3_hash cX3_hash 4 (some .int) 0) (hR : xroom R_BM_hash 4 R) (hst : (st.map fun v => v.category).sum ≤ 8) (hr : rok s) (kk : xs X cA own cc nL ret R (wd ad cA (s)) 0 0 (pc + 3) L (.int (mBM_hash s) :: st)) : xs X cA own cc nL ret R (wd ad cA s) 0 0 pc L (.ref (ad 0) :: st) :=
  xs_call 0 (c_BM_hash ad cA s hr) rfl rfl d hw hR rfl rfl rfl hst ⟨Nat.zero_le _, Nat.zero_le _⟩ kk
end
section
/-! THROWING -/
/-- the invocation's start, its heap as the walk has it now -/
def xre (s T : State) : State := { s with heap := T.heap, slotsUsed := T.slotsUsed }
section XRE
variable {p : Program} {l : Launch} {e : Env} {R : Room} {s : State} {m : MethodId} {args : Array Value} {below : List Frame} {meth : Method} {c : Code} {T : State} {locs : List Loc} {cells slots : Nat}
theorem xre_same (X : Stand p l e R s m args below meth c T locs cells slots) : s.sameButNew (xre s T) locs cells slots := by
  obtain ⟨t, ht, -⟩ := State.frames_cons X.frames
  have h := X.same.setFrames s.frames X.cur
  have e : (T.setVm s.vm).setFrames s.frames = xre s T := by
    refine (congrArg (fun z : State => z.setFrames s.frames) X.same.1).trans ?_
    show ({ (s.setFrames (T.setVm s.vm).frames).setFrames s.frames with heap := T.heap, slotsUsed := T.slotsUsed } : State) = xre s T
    rw [State.setFrames_setFrames, State.setFrames_self ht]
    rfl
  rw [e] at h
  exact h
theorem xre_stand (X : Stand p l e R s m args below meth c T locs cells slots) (hc : cells ≤ R.cells) (hn : slots ≤ R.slots) : Stand p l e { R with cells := R.cells - cells, slots := R.slots - slots } (xre s T) m args below meth c T [] 0 0 := by
  have hrm := X.room
  simp only [State.hasRoom, Bool.and_eq_true, decide_eq_true_eq] at hrm
  have h1 := X.heapSize
  have h2 := X.used
  refine ⟨X.admits, X.cas, X.clock, X.frames, ?_, X.hears, X.method, X.code, X.here, X.tail, X.warmed, X.limits, X.bytes, X.same.1, Nat.le_refl _, Nat.le_refl _, ?_, ?_, fun a c hc => ⟨c, hc, rfl, rfl, fun _ _ => rfl⟩⟩
  · simp only [State.hasRoom, Bool.and_eq_true, decide_eq_true_eq]
    refine ⟨⟨⟨hrm.1.1.1, ?_⟩, ?_⟩, X.book⟩
    · show T.heap.size + (R.cells - cells) ≤ _
      have := hrm.1.1.2
      omega
    · show T.slotsUsed + (R.slots - slots) ≤ _
      have := hrm.1.2
      omega
  · show T.slotsUsed = T.slotsUsed + ((T.heap.toList.drop T.heap.size).map (·.slots.size)).sum
    rw [List.drop_eq_nil_of_le (by simp)]
    simp
  · show ((T.heap.toList.drop T.heap.size).map (·.slots.size)).sum ≤ 0
    rw [List.drop_eq_nil_of_le (by simp)]
    simp
end XRE
def xU1 : Cond := .isRef (.static "java/lang/Throwable" "UNASSIGNED_STACK" "[Ljava/lang/StackTraceElement;")
def xU2 : Cond := .isRef (.static "java/lang/Throwable" "SUPPRESSED_SENTINEL" "Ljava/util/List;")
/-- words on the tables that are carried by hand -/
def xBad : List Cond := [.castable "java/lang/IllegalArgumentException" "java/lang/IllegalArgumentException", .castable "java/lang/ArithmeticException" "java/lang/ArithmeticException", .castable "java/util/NoSuchElementException" "java/util/NoSuchElementException", .declares (Bundle.init0 "java/lang/RuntimeException"), .declares (Bundle.init0 "java/lang/Exception"), .declares (Bundle.init0 "java/lang/Throwable")]
theorem xBad_in : ∀ w ∈ xBad, w ∈ lw_tbl := by decide +kernel
/-- a static field is laid as the tables say, in a cell that nobody writes -/
def xLS (C n d : String) (A : Nat → Prop) (U : State) (H : Heap) : Prop := ∃ (c : ClassId) (k : Class) (i : Nat) (f : Field) (a : Nat) (cell : Cell), U.vm.findClass C = some c ∧ U.fieldFound? C n d = some (c, k, i, f) ∧ f.isStatic = true ∧ k.statics = some a ∧ k.staticTypes[f.slot]? = some f.type ∧ H[a]? = some cell ∧ cell.vm.isStatics = true ∧ cell.cls = c ∧ f.slot < cell.slots.size ∧ ¬ A a
theorem xLS.moved {C n d : String} {A : Nat → Prop} {u U : State} {H : Heap} (hvm : u.vm.Alike U.vm) (h : xLS C n d A u H) : xLS C n d A U H := by
  obtain ⟨c, k, i, f, a, cell, h0, h1, h2, h3, h4, h5⟩ := h
  obtain ⟨k', hi', he⟩ := State.fieldFound?_setVm hvm h1
  exact ⟨c, k', i, f, a, cell, by rw [hvm.findClass]; exact h0, hi', h2, by rw [he]; exact h3, by rw [he]; exact h4, h5⟩
theorem xLS.kept {C n d : String} {A : Nat → Prop} {U : State} {H H1 : Heap} (h : xLS C n d A U H) (hq : ∀ a : Nat, a < H.size → ¬ A a → H1[a]? = H[a]?) : xLS C n d A U H1 := by
  obtain ⟨c, k, i, f, a, cell, h0, h1, h2, h3, h4, h5, h6, h7, h8, h9⟩ := h
  exact ⟨c, k, i, f, a, cell, h0, h1, h2, h3, h4, by rw [hq a (Array.getElem?_eq_some_iff.mp h5).1 h9]; exact h5, h6, h7, h8, h9⟩
theorem xLS.narrow {C n d : String} {A B : Nat → Prop} {U : State} {H : Heap} (h : xLS C n d A U H) (hAB : ∀ q, B q → A q) : xLS C n d B U H := by
  obtain ⟨c, k, i, f, a, cell, h0, h1, h2, h3, h4, h5, h6, h7, h8, h9⟩ := h
  exact ⟨c, k, i, f, a, cell, h0, h1, h2, h3, h4, h5, h6, h7, h8, fun z => h9 (hAB a z)⟩
theorem xLS_of {args : Array Value} {s : State} {C n d : String} {A : Nat → Prop} (h : (Cond.laysStatic C n d).before args s = true) (hA : ∀ a : Nat, a < s.heap.size → ¬ A a) : xLS C n d A s s.heap := by
  obtain ⟨c, k, i, f, a, cell, h0, h1, h2, h3, h5, h6, h7, h8, h4⟩ := Cond.laysStatic_spec h
  exact ⟨c, k, i, f, a, cell, h0, h1, h2, h3, h4, h5, h6, h7, h8, hA a (Array.getElem?_eq_some_iff.mp h5).1⟩
theorem xLS_to {args : Array Value} {U : State} {C n d : String} {A : Nat → Prop} (h : xLS C n d A U U.heap) : (Cond.laysStatic C n d).before args U = true := by
  obtain ⟨c, k, i, f, a, cell, h0, h1, h2, h3, h4, h5, h6, h7, h8, h9⟩ := h
  exact Cond.laysStatic_of h0 h1 h2 h3 h5 h6 h7 h8 h4
def xU3 : Cond := .laysStatic "java/lang/Throwable" "UNASSIGNED_STACK" "[Ljava/lang/StackTraceElement;"
def xU4 : Cond := .laysStatic "java/lang/Throwable" "SUPPRESSED_SENTINEL" "Ljava/util/List;"
/-- what is wanted to make an exception -/
def xE (A : Nat → Prop) (U : State) (H : Heap) : Prop := va_Zq "java/lang/Throwable" "UNASSIGNED_STACK" "[Ljava/lang/StackTraceElement;" A U H ∧ va_Zq "java/lang/Throwable" "SUPPRESSED_SENTINEL" "Ljava/util/List;" A U H ∧ (∀ w ∈ xBad, w.before #[] U = true) ∧ xLS "java/lang/Throwable" "UNASSIGNED_STACK" "[Ljava/lang/StackTraceElement;" A U H ∧ xLS "java/lang/Throwable" "SUPPRESSED_SENTINEL" "Ljava/util/List;" A U H
theorem xBad_vm {s U : State} (h : s.vm.Alike U.vm) {w : Cond} (hw : w ∈ xBad) (hs : w.before #[] s = true) : w.before #[] U = true := by
  simp only [xBad, List.mem_cons, List.not_mem_nil, or_false] at hw
  rcases hw with rfl | rfl | rfl | rfl | rfl | rfl
  · exact va_tabs rfl (rfl : (s.setVm U.vm).vm = U.vm) (by rw [Cond.castable_setVm h]; exact hs)
  · exact va_tabs rfl (rfl : (s.setVm U.vm).vm = U.vm) (by rw [Cond.castable_setVm h]; exact hs)
  · exact va_tabs rfl (rfl : (s.setVm U.vm).vm = U.vm) (by rw [Cond.castable_setVm h]; exact hs)
  · exact va_tabs rfl (rfl : (s.setVm U.vm).vm = U.vm) (by rw [Cond.declares_setVm h]; exact hs)
  · exact va_tabs rfl (rfl : (s.setVm U.vm).vm = U.vm) (by rw [Cond.declares_setVm h]; exact hs)
  · exact va_tabs rfl (rfl : (s.setVm U.vm).vm = U.vm) (by rw [Cond.declares_setVm h]; exact hs)
theorem xE.moved {A : Nat → Prop} {s U : State} {H : Heap} (h : s.vm.Alike U.vm) (q : xE A s H) : xE A U H := ⟨q.1.moved h, q.2.1.moved h, fun w hw => xBad_vm h hw (q.2.2.1 w hw), q.2.2.2.1.moved h, q.2.2.2.2.moved h⟩
theorem xE.kept {A : Nat → Prop} {U : State} {H H1 : Heap} (q : xE A U H) (hq : ∀ a : Nat, a < H.size → ¬ A a → H1[a]? = H[a]?) : xE A U H1 := ⟨q.1.kept hq, q.2.1.kept hq, q.2.2.1, q.2.2.2.1.kept hq, q.2.2.2.2.kept hq⟩
theorem xE.narrow {A B : Nat → Prop} {U : State} {H : Heap} (q : xE A U H) (hAB : ∀ q, B q → A q) : xE B U H := ⟨q.1.narrow hAB, q.2.1.narrow hAB, q.2.2.1, q.2.2.2.1.narrow hAB, q.2.2.2.2.narrow hAB⟩
theorem xZ_ref {C n d : String} {A : Nat → Prop} {U : State} {args : Array Value} (h : va_Zq C n d A U U.heap) : (Cond.isRef (.static C n d)).before args U = true := by
  rcases h with ⟨cf, kf, fi, f, a, cell, h1, h2, h3, h4, h5, h6, h7, h8⟩ | ⟨t, cf, kf, fi, f, a, cell, h1, h2, h3, h4, h5, h6, h7, h8⟩
  · simp [Cond.before, Cond.holds, Cond.value, Term.eval, State.fieldNamed?, h1, h2, h4, h5, h6, h7]
  · simp [Cond.before, Cond.holds, Cond.value, Term.eval, State.fieldNamed?, h1, h2, h4, h5, h6, h7]
end
section
def xAok (w : Cond) : Bool := (decide (w ∈ lw_tbl) && (k2_isCode w || goodWord w)) || decide (w ∈ xBad) || decide (w = xU1) || decide (w = xU2) || decide (w = xU3) || decide (w = xU4)
theorem xBad_args {U : State} {a : Array Value} {w : Cond} (hw : w ∈ xBad) (h : w.before #[] U = true) : w.before a U = true := by
  simp only [xBad, List.mem_cons, List.not_mem_nil, or_false] at hw
  rcases hw with rfl | rfl | rfl | rfl | rfl | rfl <;> exact va_tabs rfl rfl h
theorem xA_at {ws : List Cond} (h : ws.all xAok = true) {A : Nat → Prop} {args a' : Array Value} {s U : State} (hts : ∀ w ∈ xt_tbl, w.before args s = true) (hW : s.WarmedH U.vm) (hE : xE A U U.heap) : ∀ w ∈ ws, w.before a' U = true := by
  intro w hw
  have h1 := List.all_eq_true.mp h w hw
  simp only [xAok, Bool.or_eq_true, Bool.and_eq_true, decide_eq_true_eq] at h1
  rcases h1 with ((((⟨h1, h2⟩ | h1) | h1) | h1) | h1) | h1
  · have h3 := xt_of h1 (by rcases h2 with h2 | h2 <;> simp [h2])
    exact word_at hW (gl_all w h3).2 (hts w h3)
  · exact xBad_args h1 (hE.2.2.1 w h1)
  · rw [h1]; exact xZ_ref hE.1
  · rw [h1]; exact xZ_ref hE.2.1
  · rw [h1]; exact xLS_to hE.2.2.2.1
  · rw [h1]; exact xLS_to hE.2.2.2.2
theorem xsame_nil {s t : State} {k n : Nat} (h : s.sameButNew t [] k n) {q : Nat} {c : Cell} (hc : s.heap[q]? = some c) : t.heap[q]? = some c := by
  obtain ⟨c', h1, h2, h3, h4⟩ := h.2.2.2.2.2 q c hc
  have e : c'.slots = c.slots := Array.ext_getElem? (fun i => h4 i (by simp))
  rw [h1, h2, e]
/-- what a method's end tells that threw -/
def xFT (first : State) (o : Outcome) (t : State) (L : List Loc) (k n : Nat) : Prop := (∃ x, o = .threw x) ∧ first.WarmedH t.vm ∧ first.sameButNew ({ t with vm := first.vm } : State) L k n
def xMT (l : Launch) (y : MethodName) (ws : List Cond) (rm : Room) (Pc : Array Value → State → Prop) (Qc : Array Value → State → Outcome → State → Prop) (mc ms : Nat) (free : Addr → Prop) : Prop :=
  MetFree l y (headSpec ws rm) Pc (fun _ _ _ _ _ => True) (fun a st o t => Qc a st o t ∧ ∃ L, xFT st o t L mc ms ∧ ∀ q ∈ L, free q.base)
def xMQ (below : List Frame) (Qc : Array Value → State → Outcome → State → Prop) (a : Array Value) (s : State) (mc ms : Nat) (free : Addr → Prop) : State → Prop := fun t =>
  ∃ o, t.status = .running ∧ Ended t below o ∧ Qc a s o t ∧ ∃ L, xFT s o t L mc ms ∧ ∀ q ∈ L, free q.base
theorem xMT_ofW {l : Launch} {y : MethodName} {ws ws' : List Cond} {rm : Room} {Pc : Array Value → State → Prop} {Qc : Array Value → State → Outcome → State → Prop} {mc ms : Nat} {free : Addr → Prop} {cc : ByteArray} {maxL : Nat} {ret : Option FieldType}
    (hy : plainName y.cls = true) (hw : ws = Cond.code y cc maxL ret :: ws')
    (body : ∀ p e s m args below meth c s₁, BodyLoose p l y (headSpec ws rm) cc maxL ret e s m args below meth c s₁ → c.maxLocals = maxL → Pc args s →
      W p l e (headSpec ws rm).room s m args below meth c s.heap [] 0 0 (xMQ below Qc args s mc ms free) (entryFrame m args maxL)) : xMT l y ws rm Pc Qc mc ms free := by
  refine MetFree.of_bodyS (code := cc) (maxLocals := maxL) (ret := ret) hy ?_ ?_
  · intro args s m h hn
    obtain ⟨meth, c, h1, h2, h3, h4, h5, h6, -, -⟩ := Cond.code_spec hn (atoms_spec (ws := ws) h _ (by rw [hw]; exact List.mem_cons_self))
    exact ⟨meth, c, h1, h2, h3, h4, h5, h6⟩
  · intro p e s m args below meth c s₁ B hml hP _
    have hh0 : s₁.heap = s.heap := by rw [B.state]; rfl
    obtain ⟨t, a1, o, b1, b2, b3⟩ := body p e s m args below meth c s₁ B hml hP s₁ hh0 (Stand.of_body B)
    exact ⟨t, o, a1, b1, b2, ⟨b3.1, b3.2⟩⟩
/-- it threw an E; the world is as it was -/
def xqT (D : va_G) (A : Nat → Prop) (E : String) (w1 : va_W) : Array Value → State → Outcome → State → Prop := fun _ st oc t =>
  (∃ (a : Nat) (cell : Cell), oc = .threw a ∧ t.heap[a]? = some cell ∧ cell.vm = .none ∧ st.vm.findClass E = some cell.cls ∧ st.heap.size ≤ a ∧ va_P D vwCl w1 t.heap ∧ va_D A w1) ∧ va_F A st t
def xfinT (X : xz_X) (k n : Nat) (E : String) (w1 : va_W) : Prop := match X with
  | (_, _, _, s, _, args, below, _, _, D, A, Q, _) => Q = xMQ below (xqT D A E w1) args s k n A
/-- a method without handlers, at whose start an exception can be made -/
def xEX (X : xz_X) : Prop := match X with
  | (_, _, _, s, _, _, _, _, c, _, A, _, _) => xE A s s.heap ∧ c.exceptionTable.isEmpty = true
def xctT (cA : ClassId) (y : MethodName) (cc : ByteArray) (nL : Nat) (ret : Option FieldType) (R : Room) (av : List Value) (ws : va_W) (E : String) : Prop :=
  ∀ (l : Launch) (D : va_G) (sz : Nat), l.flags = flags0 → xMT l y (.code y cc nL ret :: xt_tbl) R (va_Pc av (fun U => U.heap.size = sz ∧ va_P D vwCl ws U.heap ∧ va_K D vwCl [(cA, .int)] U ∧ va_D (fun _ => True) ws ∧ xE (va_A ws sz) U U.heap)) (xqT D (va_A ws sz) E ws) R.cells R.slots (va_A ws sz)
theorem xctT_of {cA : ClassId} {y : MethodName} {own : String} {cc : ByteArray} {nL : Nat} {ret : Option FieldType} {R : Room} {av : List Value} {ws : va_W} {E : String}
    (hy : plainName y.cls = true) (hown : y.cls = own) (hn : (lg_sl av).length ≤ nL) (body : ∀ X : xz_X, xfinT X R.cells R.slots E ws → xEX X → xs X cA own cc nL ret R ws 0 0 0 (lv_args 0 av) []) : xctT cA y cc nL ret R av ws E := by
  intro l D sz hfl
  refine xMT_ofW (cc := cc) (maxL := nL) (ret := ret) hy rfl ?_
  intro p e s m args below meth c s₁ B hml hv
  obtain ⟨rfl, hsz, hP, hK, hD0, hE⟩ := hv
  have hts := atoms_spec (ws := .code y cc nL ret :: xt_tbl) B.pre
  have hfc : s.vm.findClass own = some m.cls := by rw [← hown]; exact findClass_of_methodNamed B.named
  subst hsz
  have hD := hD0.self (sz := s.heap.size)
  have hl := lv_entry av (n := nL) hn
  rw [lg_entry_eq]
  exact body (p, l, e, s, m, av.toArray, below, meth, c, D, va_A ws s.heap.size, xMQ below (xqT D (va_A ws s.heap.size) E ws) av.toArray s R.cells R.slots (va_A ws s.heap.size), []) rfl ⟨hE, B.noHandlers (hts _ List.mem_cons_self)⟩
    ⟨⟨B.exec, B.bytes, hml, hfc, fun w hw => hts w (List.mem_cons_of_mem _ hw)⟩, hK, fun q h => Or.inr h, B.notSynchronized, B.returns, hfl, xa_ns hP⟩ s.heap [] _ hP hD va_S.rf hl
abbrev xNm : List String := ["java/lang/RuntimeException", "java/lang/Exception"]
set_option maxHeartbeats 4000000 in
/-- 'throw new E()' -/
theorem xs_throw {X : xz_X} {cA : ClassId} {own : String} {cc : ByteArray} {nL : Nat} {ret : Option FieldType} {R : Room} {ws : va_W} {k n pc : Nat} {L : List (Nat × Value)} {E : String} {ix ic : Nat} (hX : xfinT X (k + 1) (n + 6) E ws) (hEx : xEX X)
    (d0 : decode cc pc = .ok (.new ix, 3)) (d1 : decode cc (pc + 3) = .ok (.dup, 1)) (d2 : decode cc (pc + 4) = .ok (.invokespecial ic, 3)) (d3 : decode cc (pc + 7) = .ok (.athrow, 1))
    (hcl : Cond.classLink own ix E ∈ xt_tbl) (hins : Cond.instantiable E 6 ∈ xt_tbl) (hini : Cond.initialized E ∈ xt_tbl) (hat : (Bundle.ownAtoms0 own ic E xNm).all xAok = true) (hfit : Bundle.fit E = true) (hR : k + 1 ≤ R.cells ∧ n + 6 ≤ R.slots ∧ 5 < R.frames ∧ 81 ≤ R.locals) : xs X cA own cc nL ret R ws k n pc L [] := by
  obtain ⟨p, l, e, s, m, args, below, meth, c, D, A, Q, ty2⟩ := X
  intro v H locs ls hP hD hS hl
  obtain ⟨⟨hx, hb, hml, hown, hts⟩, hK, hA, hlk, hr, hfl, hns⟩ := id v
  obtain ⟨hE, hnh⟩ := hEx
  cases (show Q = _ from hX)
  intro T hT X0
  have htr : e.platform.stackTraces = false := Launch.traces_off hfl X0.admits
  have X1 := xre_stand X0 (by omega) (by omega)
  have hW0 : s.WarmedH (xre s T).vm := State.WarmedH.refl s
  have hE' : xE A (xre s T) (xre s T).heap := by
    have h1 : xE A s H := hE.kept (fun a h1 h2 => hS.2.1 a h1 h2)
    rw [← hT] at h1
    exact h1.moved (Vm.Alike.refl s.vm)
  have hat' := xA_at (a' := args) hat hts hW0 hE'
  have hts' : ∀ w ∈ xt_tbl, w.before args (xre s T) = true := fun w hw => word_at hW0 (gl_all w hw).2 (hts w hw)
  obtain ⟨vm', cC, kC, h1, h2, h3, h4, X2, st⟩ := X1.newCold hx hown (hts' _ hcl) (hts' _ hins) (hts' _ hini) (g := F0 m pc ls []) rfl (by rw [hb]; exact d0) (by show 0 + 1 ≤ R.cells - k; omega) (by show 0 + 6 ≤ R.slots - n; omega)
  have hHs : T.heap.size = H.size := by rw [hT]
  have KW : W p l e { R with cells := R.cells - k, slots := R.slots - n } (xre s T) m args below meth c (H.push { cls := cC, slots := kC.instanceTypes.map defaultValue, vm := .none }) [] (0 + 1) (0 + 6) (xMQ below (xqT D A E ws) args s (k + 1) (n + 6) A) (F0 m (pc + 3) ls [.ref H.size]) := by
    refine lv_dup hx hb d1 rfl ?_
    intro T3 hT3 X3
    have hcellA : T3.heap[H.size]? = some (freshCell cC kC) := by rw [hT3]; simp
    obtain ⟨U, hst, hrun, hend, hWU, hsame, ce, hce, hoc⟩ := X3.ctorThrow0 hx htr (names := xNm) hown hfit (by decide) hat' (fun x hx => by cases hx) h1 h2 hcellA (by show T.heap.size ≤ H.size; rw [hHs]; exact Nat.le_refl _) (g := F0 m (pc + 3 + 1) ls [.ref H.size, .ref H.size]) rfl (hl.1.trans hml.symm) rfl rfl (rest := []) rfl (by rw [hb]; exact d2) (by rw [hb]; exact d3)
      (fun x hx => by
        have : c.exceptionTable = #[] := by simpa using hnh
        rw [this] at hx
        cases hx) (by show 2 + 3 < R.frames; omega) (by show _ ≤ R.locals; exact Nat.le_trans (Nat.le_of_ble_eq_true rfl) hR.2.2.2) hlk
    have hkeep : ∀ (q : Nat) (cl : Cell), H[q]? = some cl → U.heap[q]? = some cl := fun q cl hq => xsame_nil hsame (show T.heap[q]? = some cl by rw [hT]; exact hq)
    have hUs : H.size ≤ U.heap.size := by have := hsame.2.1; rw [show (xre s T).heap.size = H.size from hHs] at this; exact this
    have hk2 : ∀ q : Nat, q < H.size → U.heap[q]? = H[q]? := fun q hq => by
      have : H[q]? = some H[q] := Array.getElem?_eq_getElem hq
      rw [this]
      exact hkeep q _ this
    refine ⟨U, hst, .threw H.size, hrun, hend, ⟨⟨H.size, ce, rfl, hce, hoc.vm, hoc.cls, hS.1, fun j q hq => (hP j q hq).kept (hk2 q.1 ((hP j q hq).lt)), hD⟩, Nat.le_trans hS.1 hUs, fun q h1 h2 => by rw [hk2 q (Nat.lt_of_lt_of_le h1 hS.1)]; exact hS.2.1 q h1 h2⟩, locs, ⟨⟨_, rfl⟩, hWU, ?_⟩, hS.2.2⟩
    have := (xre_same X0).trans hsame
    rw [List.append_nil] at this
    exact this
  obtain ⟨t, a1, b1⟩ := KW _ (by show (T.heap.push _) = _; rw [hT]) X2
  exact ⟨t, st t (by rw [hHs]; exact a1), b1⟩
end
section
set_option maxRecDepth 100000 in
theorem xcl_IllegalArgumentException : Cond.classLink RX3 38 "java/lang/IllegalArgumentException" ∈ xt_tbl := xt_of (by decide +kernel) rfl
set_option maxRecDepth 100000 in
theorem xin_IllegalArgumentException : Cond.instantiable "java/lang/IllegalArgumentException" 6 ∈ xt_tbl := xt_of (by decide +kernel) rfl
set_option maxRecDepth 100000 in
theorem xii_IllegalArgumentException : Cond.initialized "java/lang/IllegalArgumentException" ∈ xt_tbl := xt_of (by decide +kernel) rfl
set_option maxRecDepth 100000 in
theorem xat_IllegalArgumentException : (Bundle.ownAtoms0 RX3 40 "java/lang/IllegalArgumentException" xNm).all xAok = true := by decide +kernel
set_option maxRecDepth 100000 in
theorem xcl_ArithmeticException : Cond.classLink RX3 60 "java/lang/ArithmeticException" ∈ xt_tbl := xt_of (by decide +kernel) rfl
set_option maxRecDepth 100000 in
theorem xin_ArithmeticException : Cond.instantiable "java/lang/ArithmeticException" 6 ∈ xt_tbl := xt_of (by decide +kernel) rfl
set_option maxRecDepth 100000 in
theorem xii_ArithmeticException : Cond.initialized "java/lang/ArithmeticException" ∈ xt_tbl := xt_of (by decide +kernel) rfl
set_option maxRecDepth 100000 in
theorem xat_ArithmeticException : (Bundle.ownAtoms0 RX3 62 "java/lang/ArithmeticException" xNm).all xAok = true := by decide +kernel
set_option maxRecDepth 100000 in
theorem xcl_NoSuchElementException : Cond.classLink RX3 72 "java/util/NoSuchElementException" ∈ xt_tbl := xt_of (by decide +kernel) rfl
set_option maxRecDepth 100000 in
theorem xin_NoSuchElementException : Cond.instantiable "java/util/NoSuchElementException" 6 ∈ xt_tbl := xt_of (by decide +kernel) rfl
set_option maxRecDepth 100000 in
theorem xii_NoSuchElementException : Cond.initialized "java/util/NoSuchElementException" ∈ xt_tbl := xt_of (by decide +kernel) rfl
set_option maxRecDepth 100000 in
theorem xat_NoSuchElementException : (Bundle.ownAtoms0 RX3 74 "java/util/NoSuchElementException" xNm).all xAok = true := by decide +kernel
abbrev R_BM_make : Room := { frames := 3, cells := 0, slots := 0, locals := 64 }
set_option maxRecDepth 100000 in
theorem kw_BM_BM_isMode : xwS RX3 34 yX3_isMode cX3_isMode 2 (some .boolean) 2 := ⟨⟨xt_of (List.mem_of_getElem? (i := 312) rfl) rfl, xt_of (by decide +kernel) rfl, xt_of (by decide +kernel) rfl, by decide +kernel⟩, xt_of (by decide +kernel) rfl⟩
set_option maxRecDepth 100000 in
theorem kw_BM_Bi_begin : xwV RX3 48 yX0_begin cX0_begin 2 none 1 := ⟨⟨xt_of (List.mem_of_getElem? (i := 379) rfl) rfl, xt_of (by decide +kernel) rfl, xt_of (by decide +kernel) rfl, by decide +kernel⟩, xt_of (by decide +kernel) rfl, xt_of (by decide +kernel) rfl⟩
set_option maxHeartbeats 4000000 in
set_option maxRecDepth 100000 in
theorem c_BM_make (ad : Nat → Nat) (cA : ClassId) (s : zT) (mode : Int32) (f : Int32) (most : Int32) (h1 : mBM_isMode mode most = true) (h2 : ¬ f < 0) (h3 : f ≤ 2) : xct cA yX3_make cX3_make 5 (some .int) R_BM_make [.ref (ad 0), .int mode, .int f, .int most] (wd ad cA s) (some (.int (s.2 4 2))) (wd ad cA (mBM_make s mode f most)) := by
  refine xct_of (own := RX3) (by decide) rfl (Nat.le_of_ble_eq_true rfl) (fun X hX => ?_)
  show xs X cA RX3 cX3_make 5 (some .int) R_BM_make (wd ad cA s) 0 0 0 [(0, .ref (ad 0)), (1, .int mode), (2, .int f), (3, .int most)] []
  refine xs_iload_n 1 dX3_make_0 rfl ?_
  refine xs_iload_n 3 dX3_make_1 rfl ?_
  refine k_BM_isMode dX3_make_2 kw_BM_BM_isMode (by decide) (Nat.le_of_ble_eq_true rfl) ?_
  refine xs_bif_eq (t := 17) dX3_make_5 (by decide) (fun c5 => ?_) (fun c5 => ?_)
  · exact absurd (h1.symm.trans c5) (by decide)
  · refine xs_iload_n 2 dX3_make_8 rfl ?_
    refine xs_if_lt (t := 17) dX3_make_9 (by decide) (fun c9 => ?_) (fun c9 => ?_)
    · exact absurd c9 h2
    · refine xs_iload_n 2 dX3_make_12 rfl ?_
      refine xs_iconst (v := 2) dX3_make_13 (by decide) ?_
      refine xs_icmp_le (t := 25) dX3_make_14 (by decide) (fun c14 => ?_) (fun c14 => ?_)
      · refine xs_aload_n 0 dX3_make_25 rfl ?_
        refine g_BM_line dX3_make_26 ?_
        refine k_Ln_count dX3_make_29 kw_BM_Ln_count (by decide) (Nat.le_of_ble_eq_true rfl) ?_
        refine xs_istore (L' := [(4, _), (0, _), (1, _), (2, _), (3, _)]) dX3_make_32 (by decide) rfl ?_
        refine xs_aload_n 1 dX3_make_34 rfl ?_
        refine g_BM_line dX3_make_35 ?_
        refine k_Ln_drain dX3_make_38 kw_BM_Ln_drain (by decide) (Nat.le_of_ble_eq_true rfl) ?_
        refine xs_aload_n 1 dX3_make_41 rfl ?_
        refine g_BM_bins dX3_make_42 ?_
        refine xs_iload_n 3 dX3_make_45 rfl ?_
        refine k_Bi_begin dX3_make_46 kw_BM_Bi_begin (by decide) (Nat.le_of_ble_eq_true rfl) ?_
        refine xs_aload_n 1 dX3_make_49 rfl ?_
        refine xs_iload_n 2 dX3_make_50 rfl ?_
        refine p_BM_mode dX3_make_51 ?_
        refine xs_aload_n 1 dX3_make_54 rfl ?_
        refine xs_iload_n 4 dX3_make_55 rfl ?_
        refine p_BM_most dX3_make_56 ?_
        refine xs_iload 0 dX3_make_59 rfl ?_
        exact xs_iret hX rfl dX3_make_61 rfl rfl
      · exact absurd h3 c14
theorem k_BM_make {X : xz_X} {cA : ClassId} {own : String} {ad : Nat → Nat} {cc : ByteArray} {nL : Nat} {ret : Option FieldType} {R : Room} {s : zT} {pc ix : Nat} {L : List (Nat × Value)} {st : List Value} {mode : Int32} {f : Int32} {most : Int32} (d : decode cc pc = .ok (.invokevirtual ix, 3)) (hw : xwV own ix yX3_make cX3_make 5 (some .int) 3) (hR : xroom R_BM_make 5 R) (hst : (st.map fun v => v.category).sum ≤ 8) (h1 : mBM_isMode mode most = true) (h2 : ¬ f < 0) (h3 : f ≤ 2) (kk : xs X cA own cc nL ret R (wd ad cA (mBM_make s mode f most)) 0 0 (pc + 3) L (.int (s.2 4 2) :: st)) : xs X cA own cc nL ret R (wd ad cA s) 0 0 pc L (.int most :: .int f :: .int mode :: .ref (ad 0) :: st) :=
  xs_call 0 (c_BM_make ad cA s mode f most h1 h2 h3) rfl rfl d hw hR rfl rfl rfl hst ⟨Nat.zero_le _, Nat.zero_le _⟩ kk
abbrev RT_BM_make : Room := { frames := 6, cells := 1, slots := 6, locals := 81 }
set_option maxHeartbeats 4000000 in
set_option maxRecDepth 100000 in
theorem cT_BM_make (ad : Nat → Nat) (cA : ClassId) (s : zT) (mode : Int32) (f : Int32) (most : Int32) (h : mBM_isMode mode most = false ∨ f < 0 ∨ ¬ f ≤ 2) : xctT cA yX3_make cX3_make 5 (some .int) RT_BM_make [.ref (ad 0), .int mode, .int f, .int most] (wd ad cA s) "java/lang/IllegalArgumentException" := by
  refine xctT_of (own := RX3) (by decide) rfl (Nat.le_of_ble_eq_true rfl) (fun X hX hEx => ?_)
  show xs X cA RX3 cX3_make 5 (some .int) RT_BM_make (wd ad cA s) 0 0 0 [(0, .ref (ad 0)), (1, .int mode), (2, .int f), (3, .int most)] []
  refine xs_iload_n 1 dX3_make_0 rfl ?_
  refine xs_iload_n 3 dX3_make_1 rfl ?_
  refine k_BM_isMode dX3_make_2 kw_BM_BM_isMode (by decide) (Nat.le_of_ble_eq_true rfl) ?_
  refine xs_bif_eq (t := 17) dX3_make_5 (by decide) (fun c5 => ?_) (fun c5 => ?_)
  · exact xs_throw hX hEx dX3_make_17 dX3_make_20 dX3_make_21 dX3_make_24 xcl_IllegalArgumentException xin_IllegalArgumentException xii_IllegalArgumentException xat_IllegalArgumentException (by decide) (by decide)
  · refine xs_iload_n 2 dX3_make_8 rfl ?_
    refine xs_if_lt (t := 17) dX3_make_9 (by decide) (fun c9 => ?_) (fun c9 => ?_)
    · exact xs_throw hX hEx dX3_make_17 dX3_make_20 dX3_make_21 dX3_make_24 xcl_IllegalArgumentException xin_IllegalArgumentException xii_IllegalArgumentException xat_IllegalArgumentException (by decide) (by decide)
    · refine xs_iload_n 2 dX3_make_12 rfl ?_
      refine xs_iconst (v := 2) dX3_make_13 (by decide) ?_
      refine xs_icmp_le (t := 25) dX3_make_14 (by decide) (fun c14 => ?_) (fun c14 => ?_)
      · rcases h with h | h | h
        · exact absurd (c5.symm.trans h) (by decide)
        · exact absurd h c9
        · exact absurd c14 h
      · exact xs_throw hX hEx dX3_make_17 dX3_make_20 dX3_make_21 dX3_make_24 xcl_IllegalArgumentException xin_IllegalArgumentException xii_IllegalArgumentException xat_IllegalArgumentException (by decide) (by decide)
abbrev R_BM_put : Room := { frames := 7, cells := 0, slots := 0, locals := 166 }
set_option maxRecDepth 100000 in
theorem kw_BM_BM_fits : xwV RX3 56 yX3_fits cX3_fits 2 (some .boolean) 1 := ⟨⟨xt_of (List.mem_of_getElem? (i := 392) rfl) rfl, xt_of (by decide +kernel) rfl, xt_of (by decide +kernel) rfl, by decide +kernel⟩, xt_of (by decide +kernel) rfl, xt_of (by decide +kernel) rfl⟩
set_option maxRecDepth 100000 in
theorem kw_BM_BM_come : xwV RX3 63 yX3_come cX3_come 6 none 2 := ⟨⟨xt_of (List.mem_of_getElem? (i := 411) rfl) rfl, xt_of (by decide +kernel) rfl, xt_of (by decide +kernel) rfl, by decide +kernel⟩, xt_of (by decide +kernel) rfl, xt_of (by decide +kernel) rfl⟩
set_option maxRecDepth 100000 in
theorem kw_BM_BM_change : xwV RX3 69 yX3_change cX3_change 3 none 2 := ⟨⟨xt_of (List.mem_of_getElem? (i := 497) rfl) rfl, xt_of (by decide +kernel) rfl, xt_of (by decide +kernel) rfl, by decide +kernel⟩, xt_of (by decide +kernel) rfl, xt_of (by decide +kernel) rfl⟩
set_option maxHeartbeats 4000000 in
set_option maxRecDepth 100000 in
theorem c_BM_put (ad : Nat → Nat) (cA : ClassId) (s : zT) (key : Int32) (x : Int32) (hr : rok s) (hf : mBM_fits s (mBi_find s key) = true) : xct cA yX3_put cX3_put 5 (some .long) R_BM_put [.ref (ad 0), .int key, .int x] (wd ad cA s) (some (.long ((mBM_put s key x).1))) (wd ad cA ((mBM_put s key x).2)) := by
  refine xct_of (own := RX3) (by decide) rfl (Nat.le_of_ble_eq_true rfl) (fun X hX => ?_)
  show xs X cA RX3 cX3_put 5 (some .long) R_BM_put (wd ad cA s) 0 0 0 [(0, .ref (ad 0)), (1, .int key), (2, .int x)] []
  refine xs_aload_n 0 dX3_put_0 rfl ?_
  refine g_BM_bins dX3_put_1 ?_
  refine xs_iload_n 1 dX3_put_4 rfl ?_
  refine k_Bi_find dX3_put_5 kw_BM_Bi_find (by decide) (Nat.le_of_ble_eq_true rfl) hr ?_
  refine xs_istore_n (L' := [(3, _), (0, _), (1, _), (2, _)]) dX3_put_8 (by decide) rfl ?_
  refine xs_aload_n 1 dX3_put_9 rfl ?_
  refine xs_iload_n 0 dX3_put_10 rfl ?_
  refine k_BM_fits dX3_put_11 kw_BM_BM_fits (by decide) (Nat.le_of_ble_eq_true rfl) ?_
  refine xs_bif_ne (t := 25) dX3_put_14 (by decide) (fun c14 => ?_) (fun c14 => ?_)
  · refine xs_iload_n 0 dX3_put_25 rfl ?_
    refine xs_sif_ne (t := 39) dX3_put_26 (by decide) (fun c26 => ?_) (fun c26 => ?_)
    · refine xs_aload_n 1 dX3_put_39 rfl ?_
      refine g_BM_numbers dX3_put_40 ?_
      refine xs_iload_n 0 dX3_put_43 rfl ?_
      refine al_I3 dX3_put_44 ?_
      refine xs_istore (L' := [(4, _), (3, _), (0, _), (1, _), (2, _)]) dX3_put_45 (by decide) rfl ?_
      refine xs_aload_n 2 dX3_put_47 rfl ?_
      refine xs_iload_n 1 dX3_put_48 rfl ?_
      refine xs_iload_n 4 dX3_put_49 rfl ?_
      refine k_BM_change dX3_put_50 kw_BM_BM_change (by decide) (Nat.le_of_ble_eq_true rfl) ?_
      refine xs_iload 0 dX3_put_53 rfl ?_
      refine xs_i2l dX3_put_55 ?_
      exact xs_lret hX rfl dX3_put_56 (by simp only [mBM_put, c14, ↓reduceIte, Bool.false_eq_true, if_neg c26]) (by simp only [mBM_put, c14, ↓reduceIte, Bool.false_eq_true, if_neg c26])
    · refine xs_aload_n 1 dX3_put_29 rfl ?_
      refine xs_iload_n 2 dX3_put_30 rfl ?_
      refine xs_iload_n 3 dX3_put_31 rfl ?_
      refine k_BM_come dX3_put_32 kw_BM_BM_come (by decide) (Nat.le_of_ble_eq_true rfl) hr ?_
      refine xs_ldc2 (v := 4294967296) dX3_put_35 (xt_of (by decide +kernel) rfl) ?_
      exact xs_lret hX rfl dX3_put_38 (by simp only [mBM_put, c14, ↓reduceIte, Bool.false_eq_true, if_pos c26]) (by simp only [mBM_put, c14, ↓reduceIte, Bool.false_eq_true, if_pos c26])
  · exact absurd (hf.symm.trans c14) (by decide)
theorem k_BM_put {X : xz_X} {cA : ClassId} {own : String} {ad : Nat → Nat} {cc : ByteArray} {nL : Nat} {ret : Option FieldType} {R : Room} {s : zT} {pc ix : Nat} {L : List (Nat × Value)} {st : List Value} {key : Int32} {x : Int32} (d : decode cc pc = .ok (.invokevirtual ix, 3)) (hw : xwV own ix yX3_put cX3_put 5 (some .long) 2) (hR : xroom R_BM_put 5 R) (hst : (st.map fun v => v.category).sum ≤ 8) (hr : rok s) (hf : mBM_fits s (mBi_find s key) = true) (kk : xs X cA own cc nL ret R (wd ad cA ((mBM_put s key x).2)) 0 0 (pc + 3) L (.long ((mBM_put s key x).1) :: st)) : xs X cA own cc nL ret R (wd ad cA s) 0 0 pc L (.int x :: .int key :: .ref (ad 0) :: st) :=
  xs_call 0 (c_BM_put ad cA s key x hr hf) rfl rfl d hw hR rfl rfl rfl hst ⟨Nat.zero_le _, Nat.zero_le _⟩ kk
abbrev RT_BM_put : Room := { frames := 7, cells := 1, slots := 6, locals := 166 }
set_option maxHeartbeats 4000000 in
set_option maxRecDepth 100000 in
theorem cT_BM_put (ad : Nat → Nat) (cA : ClassId) (s : zT) (key : Int32) (x : Int32) (hr : rok s) (hf : mBM_fits s (mBi_find s key) = false) : xctT cA yX3_put cX3_put 5 (some .long) RT_BM_put [.ref (ad 0), .int key, .int x] (wd ad cA s) "java/lang/ArithmeticException" := by
  refine xctT_of (own := RX3) (by decide) rfl (Nat.le_of_ble_eq_true rfl) (fun X hX hEx => ?_)
  show xs X cA RX3 cX3_put 5 (some .long) RT_BM_put (wd ad cA s) 0 0 0 [(0, .ref (ad 0)), (1, .int key), (2, .int x)] []
  refine xs_aload_n 0 dX3_put_0 rfl ?_
  refine g_BM_bins dX3_put_1 ?_
  refine xs_iload_n 1 dX3_put_4 rfl ?_
  refine k_Bi_find dX3_put_5 kw_BM_Bi_find (by decide) (Nat.le_of_ble_eq_true rfl) hr ?_
  refine xs_istore_n (L' := [(3, _), (0, _), (1, _), (2, _)]) dX3_put_8 (by decide) rfl ?_
  refine xs_aload_n 1 dX3_put_9 rfl ?_
  refine xs_iload_n 0 dX3_put_10 rfl ?_
  refine k_BM_fits dX3_put_11 kw_BM_BM_fits (by decide) (Nat.le_of_ble_eq_true rfl) ?_
  refine xs_bif_ne (t := 25) dX3_put_14 (by decide) (fun c14 => ?_) (fun c14 => ?_)
  · exact absurd (hf.symm.trans c14) (by decide)
  · exact xs_throw hX hEx dX3_put_17 dX3_put_20 dX3_put_21 dX3_put_24 xcl_ArithmeticException xin_ArithmeticException xii_ArithmeticException xat_ArithmeticException (by decide) (by decide)
abbrev R_BM_find : Room := { frames := 6, cells := 0, slots := 0, locals := 141 }
set_option maxHeartbeats 4000000 in
set_option maxRecDepth 100000 in
theorem c_BM_find (ad : Nat → Nat) (cA : ClassId) (s : zT) (key : Int32) (tk : Bool) (hr : rok s) (hf : ¬ mBi_find s key = 0) : xct cA yX3_find cX3_find 5 (some .int) R_BM_find [.ref (ad 0), .int key, .int (zb tk)] (wd ad cA s) (some (.int ((mBM_find s key tk).1))) (wd ad cA ((mBM_find s key tk).2)) := by
  refine xct_of (own := RX3) (by decide) rfl (Nat.le_of_ble_eq_true rfl) (fun X hX => ?_)
  show xs X cA RX3 cX3_find 5 (some .int) R_BM_find (wd ad cA s) 0 0 0 [(0, .ref (ad 0)), (1, .int key), (2, .int (zb tk))] []
  refine xs_aload_n 0 dX3_find_0 rfl ?_
  refine g_BM_bins dX3_find_1 ?_
  refine xs_iload_n 1 dX3_find_4 rfl ?_
  refine k_Bi_find dX3_find_5 kw_BM_Bi_find (by decide) (Nat.le_of_ble_eq_true rfl) hr ?_
  refine xs_istore_n (L' := [(3, _), (0, _), (1, _), (2, _)]) dX3_find_8 (by decide) rfl ?_
  refine xs_iload_n 0 dX3_find_9 rfl ?_
  refine xs_sif_ne (t := 21) dX3_find_10 (by decide) (fun c10 => ?_) (fun c10 => ?_)
  · refine xs_aload_n 1 dX3_find_21 rfl ?_
    refine g_BM_numbers dX3_find_22 ?_
    refine xs_iload_n 0 dX3_find_25 rfl ?_
    refine al_I3 dX3_find_26 ?_
    refine xs_istore (L' := [(4, _), (3, _), (0, _), (1, _), (2, _)]) dX3_find_27 (by decide) rfl ?_
    refine xs_iload_n 4 dX3_find_29 rfl ?_
    refine xs_bif_eq (t := 41) dX3_find_30 (by decide) (fun c30 => ?_) (fun c30 => ?_)
    · refine xs_aload_n 2 dX3_find_41 rfl ?_
      refine xs_iload_n 1 dX3_find_42 rfl ?_
      refine k_BM_touch dX3_find_43 kw_BM_BM_touch (by decide) (Nat.le_of_ble_eq_true rfl) ?_
      refine xs_iload 0 dX3_find_46 rfl ?_
      exact xs_iret hX rfl dX3_find_48 rfl (by simp only [mBM_find, if_neg c10, c30, ↓reduceIte, Bool.false_eq_true])
    · refine xs_aload_n 2 dX3_find_33 rfl ?_
      refine xs_iload_n 1 dX3_find_34 rfl ?_
      refine k_BM_go dX3_find_35 kw_BM_BM_go (by decide) (Nat.le_of_ble_eq_true rfl) hr ?_
      refine xs_goto (t := 46) dX3_find_38 (by decide) ?_
      refine xs_iload 0 dX3_find_46 rfl ?_
      exact xs_iret hX rfl dX3_find_48 rfl (by simp only [mBM_find, if_neg c10, c30, ↓reduceIte, Bool.false_eq_true])
  · exact absurd c10 hf
theorem k_BM_find {X : xz_X} {cA : ClassId} {own : String} {ad : Nat → Nat} {cc : ByteArray} {nL : Nat} {ret : Option FieldType} {R : Room} {s : zT} {pc ix : Nat} {L : List (Nat × Value)} {st : List Value} {key : Int32} {tk : Bool} (d : decode cc pc = .ok (.invokevirtual ix, 3)) (hw : xwV own ix yX3_find cX3_find 5 (some .int) 2) (hR : xroom R_BM_find 5 R) (hst : (st.map fun v => v.category).sum ≤ 8) (hr : rok s) (hf : ¬ mBi_find s key = 0) (kk : xs X cA own cc nL ret R (wd ad cA ((mBM_find s key tk).2)) 0 0 (pc + 3) L (.int ((mBM_find s key tk).1) :: st)) : xs X cA own cc nL ret R (wd ad cA s) 0 0 pc L (.int (zb tk) :: .int key :: .ref (ad 0) :: st) :=
  xs_call 0 (c_BM_find ad cA s key tk hr hf) rfl rfl d hw hR rfl rfl rfl hst ⟨Nat.zero_le _, Nat.zero_le _⟩ kk
abbrev RT_BM_find : Room := { frames := 6, cells := 1, slots := 6, locals := 141 }
set_option maxHeartbeats 4000000 in
set_option maxRecDepth 100000 in
theorem cT_BM_find (ad : Nat → Nat) (cA : ClassId) (s : zT) (key : Int32) (tk : Bool) (hr : rok s) (hf : mBi_find s key = 0) : xctT cA yX3_find cX3_find 5 (some .int) RT_BM_find [.ref (ad 0), .int key, .int (zb tk)] (wd ad cA s) "java/util/NoSuchElementException" := by
  refine xctT_of (own := RX3) (by decide) rfl (Nat.le_of_ble_eq_true rfl) (fun X hX hEx => ?_)
  show xs X cA RX3 cX3_find 5 (some .int) RT_BM_find (wd ad cA s) 0 0 0 [(0, .ref (ad 0)), (1, .int key), (2, .int (zb tk))] []
  refine xs_aload_n 0 dX3_find_0 rfl ?_
  refine g_BM_bins dX3_find_1 ?_
  refine xs_iload_n 1 dX3_find_4 rfl ?_
  refine k_Bi_find dX3_find_5 kw_BM_Bi_find (by decide) (Nat.le_of_ble_eq_true rfl) hr ?_
  refine xs_istore_n (L' := [(3, _), (0, _), (1, _), (2, _)]) dX3_find_8 (by decide) rfl ?_
  refine xs_iload_n 0 dX3_find_9 rfl ?_
  refine xs_sif_ne (t := 21) dX3_find_10 (by decide) (fun c10 => ?_) (fun c10 => ?_)
  · exact absurd hf c10
  · exact xs_throw hX hEx dX3_find_13 dX3_find_16 dX3_find_17 dX3_find_20 xcl_NoSuchElementException xin_NoSuchElementException xii_NoSuchElementException xat_NoSuchElementException (by decide) (by decide)
abbrev R_BM_fill : Room := { frames := 7, cells := 0, slots := 0, locals := 166 }
set_option maxHeartbeats 4000000 in
set_option maxRecDepth 100000 in
theorem t_BM_fill {X : xz_X} {ad : Nat → Nat} {cA : ClassId} {step nn : Int32} : ∀ (m i : Nat) (key : Int32) (s : zT), rok s → i + m = nn.toNatClampNeg → xfin X cA 0 0 (some (.int ((mBM_fillL step m i key s).2 4 2))) (wd ad cA (mBM_fillL step m i key s)) → xs X cA RX3 cX3_fill 7 (some .int) R_BM_fill (wd ad cA s) 0 0 25 [(5, .int (nI i)), (4, .int key), (3, .int nn), (2, .int step), (0, .ref (ad 0))] [] := by
  intro m
  induction m with
  | zero =>
    intro i key s hr hi hX
    refine xs_iload 0 dX3_fill_25 rfl ?_
    refine xs_iload_n 2 dX3_fill_27 rfl ?_
    refine xs_icmp_ge (t := 90) dX3_fill_28 (by decide) (fun c28 => ?_) (fun c28 => ?_)
    · refine xs_aload_n 4 dX3_fill_90 rfl ?_
      refine g_BM_line dX3_fill_91 ?_
      refine k_Ln_count dX3_fill_94 kw_BM_Ln_count (by decide) (Nat.le_of_ble_eq_true rfl) ?_
      exact xs_iret hX rfl dX3_fill_97 rfl rfl
    · exact absurd (cnt_le (by omega) (by have := cnt_lt31 nn; omega)) c28
  | succ m ih =>
    intro i key s hr hi hX
    refine xs_iload 0 dX3_fill_25 rfl ?_
    refine xs_iload_n 2 dX3_fill_27 rfl ?_
    refine xs_icmp_ge (t := 90) dX3_fill_28 (by decide) (fun c28 => ?_) (fun c28 => ?_)
    · exact absurd c28 (cnt_nle (by omega))
    · refine xs_aload_n 4 dX3_fill_31 rfl ?_
      refine g_BM_bins dX3_fill_32 ?_
      refine xs_iload 1 dX3_fill_35 rfl ?_
      refine k_Bi_find dX3_fill_37 kw_BM_Bi_find (by decide) (Nat.le_of_ble_eq_true rfl) hr ?_
      refine xs_istore (L' := [(6, _), (5, _), (4, _), (3, _), (2, _), (0, _)]) dX3_fill_40 (by decide) rfl ?_
      refine xs_aload_n 5 dX3_fill_42 rfl ?_
      refine xs_iload 0 dX3_fill_43 rfl ?_
      refine k_BM_fits dX3_fill_45 kw_BM_BM_fits (by decide) (Nat.le_of_ble_eq_true rfl) ?_
      refine xs_bif_ne (t := 54) dX3_fill_48 (by decide) (fun c48 => ?_) (fun c48 => ?_)
      · refine xs_iload 0 dX3_fill_54 rfl ?_
        refine xs_sif_ne (t := 70) dX3_fill_56 (by decide) (fun c56 => ?_) (fun c56 => ?_)
        · refine xs_aload_n 5 dX3_fill_70 rfl ?_
          refine xs_iload 0 dX3_fill_71 rfl ?_
          refine xs_iload 1 dX3_fill_73 rfl ?_
          refine k_BM_change dX3_fill_75 kw_BM_BM_change (by decide) (Nat.le_of_ble_eq_true rfl) ?_
          refine xs_iload 2 dX3_fill_78 rfl ?_
          refine xs_iload_n 4 dX3_fill_80 rfl ?_
          refine xs_iadd dX3_fill_81 ?_
          refine xs_istore (L' := [(4, _), (6, _), (5, _), (3, _), (2, _), (0, _)]) dX3_fill_82 (by decide) rfl ?_
          refine xs_iinc_n (L' := [(5, _), (4, _), (6, _), (3, _), (2, _), (0, _)]) 2 dX3_fill_84 rfl (by decide) rfl ?_
          refine xs_goto (t := 25) dX3_fill_87 (by decide) ?_
          refine xs_sub (L' := [(5, _), (4, _), (3, _), (2, _), (0, _)]) [0, 1, 3, 4, 5] rfl ?_
          exact ih _ _ _ (by first | exact rok_come hr | exact rok_change hr) (by omega) (by simp only [mBM_fillL, if_neg c28, c48, ↓reduceIte, Bool.false_eq_true, if_neg c56] at hX; exact hX)
        · refine xs_aload_n 5 dX3_fill_59 rfl ?_
          refine xs_iload 2 dX3_fill_60 rfl ?_
          refine xs_iload 1 dX3_fill_62 rfl ?_
          refine k_BM_come dX3_fill_64 kw_BM_BM_come (by decide) (Nat.le_of_ble_eq_true rfl) hr ?_
          refine xs_goto (t := 78) dX3_fill_67 (by decide) ?_
          refine xs_iload 2 dX3_fill_78 rfl ?_
          refine xs_iload_n 4 dX3_fill_80 rfl ?_
          refine xs_iadd dX3_fill_81 ?_
          refine xs_istore (L' := [(4, _), (6, _), (5, _), (3, _), (2, _), (0, _)]) dX3_fill_82 (by decide) rfl ?_
          refine xs_iinc_n (L' := [(5, _), (4, _), (6, _), (3, _), (2, _), (0, _)]) 2 dX3_fill_84 rfl (by decide) rfl ?_
          refine xs_goto (t := 25) dX3_fill_87 (by decide) ?_
          refine xs_sub (L' := [(5, _), (4, _), (3, _), (2, _), (0, _)]) [0, 1, 3, 4, 5] rfl ?_
          exact ih _ _ _ (by first | exact rok_come hr | exact rok_change hr) (by omega) (by simp only [mBM_fillL, if_neg c28, c48, ↓reduceIte, Bool.false_eq_true, if_pos c56] at hX; exact hX)
      · refine xs_goto (t := 90) dX3_fill_51 (by decide) ?_
        refine xs_aload_n 5 dX3_fill_90 rfl ?_
        refine g_BM_line dX3_fill_91 ?_
        refine k_Ln_count dX3_fill_94 kw_BM_Ln_count (by decide) (Nat.le_of_ble_eq_true rfl) ?_
        exact xs_iret hX rfl dX3_fill_97 (by simp only [mBM_fillL, if_neg c28, c48, ↓reduceIte, Bool.false_eq_true]) (by simp only [mBM_fillL, if_neg c28, c48, ↓reduceIte, Bool.false_eq_true])
set_option maxHeartbeats 4000000 in
set_option maxRecDepth 100000 in
theorem c_BM_fill (ad : Nat → Nat) (cA : ClassId) (s : zT) (x : Int32) (step : Int32) (nn : Int32) (hr : rok s) (h1 : ¬ nn < 0) (h2 : nn ≤ 2000) : xct cA yX3_fill cX3_fill 7 (some .int) R_BM_fill [.ref (ad 0), .int x, .int step, .int nn] (wd ad cA s) (some (.int ((mBM_fillL step nn.toNatClampNeg 0 x s).2 4 2))) (wd ad cA (mBM_fillL step nn.toNatClampNeg 0 x s)) := by
  refine xct_of (own := RX3) (by decide) rfl (Nat.le_of_ble_eq_true rfl) (fun X hX => ?_)
  show xs X cA RX3 cX3_fill 7 (some .int) R_BM_fill (wd ad cA s) 0 0 0 [(0, .ref (ad 0)), (1, .int x), (2, .int step), (3, .int nn)] []
  refine xs_iload_n 3 dX3_fill_0 rfl ?_
  refine xs_if_lt (t := 11) dX3_fill_1 (by decide) (fun c1 => ?_) (fun c1 => ?_)
  · exact absurd c1 h1
  · refine xs_iload_n 3 dX3_fill_4 rfl ?_
    refine xs_sipush (v := 2000) dX3_fill_5 (by decide) ?_
    refine xs_icmp_le (t := 19) dX3_fill_8 (by decide) (fun c8 => ?_) (fun c8 => ?_)
    · refine xs_iload_n 1 dX3_fill_19 rfl ?_
      refine xs_istore (L' := [(4, _), (0, _), (1, _), (2, _), (3, _)]) dX3_fill_20 (by decide) rfl ?_
      refine xs_iconst (v := nI 0) dX3_fill_22 rfl ?_
      refine xs_istore (L' := [(5, _), (4, _), (0, _), (1, _), (2, _), (3, _)]) dX3_fill_23 (by decide) rfl ?_
      refine xs_sub (L' := [(5, _), (4, _), (3, _), (2, _), (0, _)]) [0, 1, 5, 4, 2] rfl ?_
      exact t_BM_fill nn.toNatClampNeg 0 _ _ hr (Nat.zero_add _) hX
    · exact absurd h2 c8
theorem k_BM_fill {X : xz_X} {cA : ClassId} {own : String} {ad : Nat → Nat} {cc : ByteArray} {nL : Nat} {ret : Option FieldType} {R : Room} {s : zT} {pc ix : Nat} {L : List (Nat × Value)} {st : List Value} {x : Int32} {step : Int32} {nn : Int32} (d : decode cc pc = .ok (.invokevirtual ix, 3)) (hw : xwV own ix yX3_fill cX3_fill 7 (some .int) 3) (hR : xroom R_BM_fill 7 R) (hst : (st.map fun v => v.category).sum ≤ 8) (hr : rok s) (h1 : ¬ nn < 0) (h2 : nn ≤ 2000) (kk : xs X cA own cc nL ret R (wd ad cA (mBM_fillL step nn.toNatClampNeg 0 x s)) 0 0 (pc + 3) L (.int ((mBM_fillL step nn.toNatClampNeg 0 x s).2 4 2) :: st)) : xs X cA own cc nL ret R (wd ad cA s) 0 0 pc L (.int nn :: .int step :: .int x :: .ref (ad 0) :: st) :=
  xs_call 0 (c_BM_fill ad cA s x step nn hr h1 h2) rfl rfl d hw hR rfl rfl rfl hst ⟨Nat.zero_le _, Nat.zero_le _⟩ kk
abbrev RT_BM_fill : Room := { frames := 7, cells := 1, slots := 6, locals := 166 }
set_option maxHeartbeats 4000000 in
set_option maxRecDepth 100000 in
theorem cT_BM_fill (ad : Nat → Nat) (cA : ClassId) (s : zT) (x : Int32) (step : Int32) (nn : Int32) (h : nn < 0 ∨ ¬ nn ≤ 2000) : xctT cA yX3_fill cX3_fill 7 (some .int) RT_BM_fill [.ref (ad 0), .int x, .int step, .int nn] (wd ad cA s) "java/lang/IllegalArgumentException" := by
  refine xctT_of (own := RX3) (by decide) rfl (Nat.le_of_ble_eq_true rfl) (fun X hX hEx => ?_)
  show xs X cA RX3 cX3_fill 7 (some .int) RT_BM_fill (wd ad cA s) 0 0 0 [(0, .ref (ad 0)), (1, .int x), (2, .int step), (3, .int nn)] []
  refine xs_iload_n 3 dX3_fill_0 rfl ?_
  refine xs_if_lt (t := 11) dX3_fill_1 (by decide) (fun c1 => ?_) (fun c1 => ?_)
  · exact xs_throw hX hEx dX3_fill_11 dX3_fill_14 dX3_fill_15 dX3_fill_18 xcl_IllegalArgumentException xin_IllegalArgumentException xii_IllegalArgumentException xat_IllegalArgumentException (by decide) (by decide)
  · refine xs_iload_n 3 dX3_fill_4 rfl ?_
    refine xs_sipush (v := 2000) dX3_fill_5 (by decide) ?_
    refine xs_icmp_le (t := 19) dX3_fill_8 (by decide) (fun c8 => ?_) (fun c8 => ?_)
    · rcases h with h | h
      · exact absurd h c1
      · exact absurd c8 h
    · exact xs_throw hX hEx dX3_fill_11 dX3_fill_14 dX3_fill_15 dX3_fill_18 xcl_IllegalArgumentException xin_IllegalArgumentException xii_IllegalArgumentException xat_IllegalArgumentException (by decide) (by decide)
abbrev R_BM_at : Room := { frames := 4, cells := 0, slots := 0, locals := 85 }
set_option maxHeartbeats 4000000 in
set_option maxRecDepth 100000 in
theorem t_BM_at {X : xz_X} {ad : Nat → Nat} {cA : ClassId} {s : zT} {i : Int32} (hr : rok s) : ∀ (m j : Nat) (a : zS), j + m = i.toNatClampNeg → xfin X cA 0 0 (some (.int (s.2 0 (mBM_walkL s m a)))) (wd ad cA (s)) → xs X cA RX3 cX3_at 4 (some .int) R_BM_at (wd ad cA s) 0 0 30 [(3, .int (nI j)), (2, .int (zs a)), (1, .int i), (0, .ref (ad 0))] [] := by
  intro m
  induction m with
  | zero =>
    intro j a hi hX
    refine xs_iload_n 0 dX3_at_30 rfl ?_
    refine xs_iload_n 2 dX3_at_31 rfl ?_
    refine xs_icmp_ge (t := 47) dX3_at_32 (by decide) (fun c32 => ?_) (fun c32 => ?_)
    · refine xs_aload_n 3 dX3_at_47 rfl ?_
      refine g_BM_bins dX3_at_48 ?_
      refine xs_iload_n 1 dX3_at_51 rfl ?_
      refine k_Bi_keyOf dX3_at_52 kw_BM_Bi_keyOf (by decide) (Nat.le_of_ble_eq_true rfl) ?_
      exact xs_iret hX rfl dX3_at_55 rfl rfl
    · exact absurd (cnt_le (by omega) (by have := cnt_lt31 i; omega)) c32
  | succ m ih =>
    intro j a hi hX
    refine xs_iload_n 0 dX3_at_30 rfl ?_
    refine xs_iload_n 2 dX3_at_31 rfl ?_
    refine xs_icmp_ge (t := 47) dX3_at_32 (by decide) (fun c32 => ?_) (fun c32 => ?_)
    · exact absurd c32 (cnt_nle (by omega))
    · refine xs_aload_n 3 dX3_at_35 rfl ?_
      refine xs_iload_n 1 dX3_at_36 rfl ?_
      refine k_BM_behind dX3_at_37 kw_BM_BM_behind (by decide) (Nat.le_of_ble_eq_true rfl) hr ?_
      refine xs_istore_n (L' := [(2, _), (3, _), (1, _), (0, _)]) dX3_at_40 (by decide) rfl ?_
      refine xs_iinc_n (L' := [(3, _), (2, _), (1, _), (0, _)]) 1 dX3_at_41 rfl (by decide) rfl ?_
      refine xs_goto (t := 30) dX3_at_44 (by decide) ?_
      refine xs_sub (L' := [(3, _), (2, _), (1, _), (0, _)]) [0, 1, 2, 3] rfl ?_
      exact ih _ _ (by omega) hX
set_option maxHeartbeats 4000000 in
set_option maxRecDepth 100000 in
theorem c_BM_at (ad : Nat → Nat) (cA : ClassId) (s : zT) (i : Int32) (hr : rok s) (h1 : ¬ i < 0) (h2 : i < s.2 4 2) : xct cA yX3_at cX3_at 4 (some .int) R_BM_at [.ref (ad 0), .int i] (wd ad cA s) (some (.int (mBM_at s i))) (wd ad cA (s)) := by
  refine xct_of (own := RX3) (by decide) rfl (Nat.le_of_ble_eq_true rfl) (fun X hX => ?_)
  show xs X cA RX3 cX3_at 4 (some .int) R_BM_at (wd ad cA s) 0 0 0 [(0, .ref (ad 0)), (1, .int i)] []
  refine xs_iload_n 1 dX3_at_0 rfl ?_
  refine xs_if_lt (t := 15) dX3_at_1 (by decide) (fun c1 => ?_) (fun c1 => ?_)
  · exact absurd c1 h1
  · refine xs_iload_n 1 dX3_at_4 rfl ?_
    refine xs_aload_n 0 dX3_at_5 rfl ?_
    refine g_BM_line dX3_at_6 ?_
    refine k_Ln_count dX3_at_9 kw_BM_Ln_count (by decide) (Nat.le_of_ble_eq_true rfl) ?_
    refine xs_icmp_lt (t := 23) dX3_at_12 (by decide) (fun c12 => ?_) (fun c12 => ?_)
    · refine xs_aload_n 0 dX3_at_23 rfl ?_
      refine k_BM_first dX3_at_24 kw_BM_BM_first (by decide) (Nat.le_of_ble_eq_true rfl) hr ?_
      refine xs_istore_n (L' := [(2, _), (0, _), (1, _)]) dX3_at_27 (by decide) rfl ?_
      refine xs_iconst (v := nI 0) dX3_at_28 rfl ?_
      refine xs_istore_n (L' := [(3, _), (2, _), (0, _), (1, _)]) dX3_at_29 (by decide) rfl ?_
      refine xs_sub (L' := [(3, _), (2, _), (1, _), (0, _)]) [0, 1, 3, 2] rfl ?_
      exact t_BM_at hr i.toNatClampNeg 0 _ (Nat.zero_add _) hX
    · exact absurd h2 c12
theorem k_BM_at {X : xz_X} {cA : ClassId} {own : String} {ad : Nat → Nat} {cc : ByteArray} {nL : Nat} {ret : Option FieldType} {R : Room} {s : zT} {pc ix : Nat} {L : List (Nat × Value)} {st : List Value} {i : Int32} (d : decode cc pc = .ok (.invokevirtual ix, 3)) (hw : xwV own ix yX3_at cX3_at 4 (some .int) 1) (hR : xroom R_BM_at 4 R) (hst : (st.map fun v => v.category).sum ≤ 8) (hr : rok s) (h1 : ¬ i < 0) (h2 : i < s.2 4 2) (kk : xs X cA own cc nL ret R (wd ad cA (s)) 0 0 (pc + 3) L (.int (mBM_at s i) :: st)) : xs X cA own cc nL ret R (wd ad cA s) 0 0 pc L (.int i :: .ref (ad 0) :: st) :=
  xs_call 0 (c_BM_at ad cA s i hr h1 h2) rfl rfl d hw hR rfl rfl rfl hst ⟨Nat.zero_le _, Nat.zero_le _⟩ kk
abbrev RT_BM_at : Room := { frames := 6, cells := 1, slots := 6, locals := 85 }
set_option maxHeartbeats 4000000 in
set_option maxRecDepth 100000 in
theorem cT_BM_at (ad : Nat → Nat) (cA : ClassId) (s : zT) (i : Int32) (h : i < 0 ∨ ¬ i < s.2 4 2) : xctT cA yX3_at cX3_at 4 (some .int) RT_BM_at [.ref (ad 0), .int i] (wd ad cA s) "java/util/NoSuchElementException" := by
  refine xctT_of (own := RX3) (by decide) rfl (Nat.le_of_ble_eq_true rfl) (fun X hX hEx => ?_)
  show xs X cA RX3 cX3_at 4 (some .int) RT_BM_at (wd ad cA s) 0 0 0 [(0, .ref (ad 0)), (1, .int i)] []
  refine xs_iload_n 1 dX3_at_0 rfl ?_
  refine xs_if_lt (t := 15) dX3_at_1 (by decide) (fun c1 => ?_) (fun c1 => ?_)
  · exact xs_throw hX hEx dX3_at_15 dX3_at_18 dX3_at_19 dX3_at_22 xcl_NoSuchElementException xin_NoSuchElementException xii_NoSuchElementException xat_NoSuchElementException (by decide) (by decide)
  · refine xs_iload_n 1 dX3_at_4 rfl ?_
    refine xs_aload_n 0 dX3_at_5 rfl ?_
    refine g_BM_line dX3_at_6 ?_
    refine k_Ln_count dX3_at_9 kw_BM_Ln_count (by decide) (Nat.le_of_ble_eq_true rfl) ?_
    refine xs_icmp_lt (t := 23) dX3_at_12 (by decide) (fun c12 => ?_) (fun c12 => ?_)
    · rcases h with h | h
      · exact absurd h c1
      · exact absurd c12 h
    · exact xs_throw hX hEx dX3_at_15 dX3_at_18 dX3_at_19 dX3_at_22 xcl_NoSuchElementException xin_NoSuchElementException xii_NoSuchElementException xat_NoSuchElementException (by decide) (by decide)
abbrev R_BM_after : Room := { frames := 4, cells := 0, slots := 0, locals := 85 }
set_option maxHeartbeats 4000000 in
set_option maxRecDepth 100000 in
theorem c_BM_after (ad : Nat → Nat) (cA : ClassId) (s : zT) (key : Int32) (hr : rok s) (hf : ¬ mBM_after s key = 0) : xct cA yX3_after cX3_after 4 (some .int) R_BM_after [.ref (ad 0), .int key] (wd ad cA s) (some (.int (s.2 0 (mBM_after s key)))) (wd ad cA (s)) := by
  refine xct_of (own := RX3) (by decide) rfl (Nat.le_of_ble_eq_true rfl) (fun X hX => ?_)
  show xs X cA RX3 cX3_after 4 (some .int) R_BM_after (wd ad cA s) 0 0 0 [(0, .ref (ad 0)), (1, .int key)] []
  refine xs_aload_n 0 dX3_after_0 rfl ?_
  refine g_BM_bins dX3_after_1 ?_
  refine xs_iload_n 1 dX3_after_4 rfl ?_
  refine k_Bi_find dX3_after_5 kw_BM_Bi_find (by decide) (Nat.le_of_ble_eq_true rfl) hr ?_
  refine xs_istore_n (L' := [(2, _), (0, _), (1, _)]) dX3_after_8 (by decide) rfl ?_
  refine xs_iload_n 0 dX3_after_9 rfl ?_
  refine xs_sif_ne (t := 17) dX3_after_10 (by decide) (fun c10 => ?_) (fun c10 => ?_)
  · refine xs_aload_n 1 dX3_after_17 rfl ?_
    refine xs_iload_n 0 dX3_after_18 rfl ?_
    refine k_BM_behind dX3_after_19 kw_BM_BM_behind (by decide) (Nat.le_of_ble_eq_true rfl) hr ?_
    refine xs_istore_n (L' := [(3, _), (2, _), (0, _), (1, _)]) dX3_after_22 (by decide) rfl ?_
    refine xs_iload_n 0 dX3_after_23 rfl ?_
    refine xs_sif_ne (t := 35) dX3_after_24 (by decide) (fun c24 => ?_) (fun c24 => ?_)
    · refine xs_aload_n 2 dX3_after_35 rfl ?_
      refine g_BM_bins dX3_after_36 ?_
      refine xs_iload_n 0 dX3_after_39 rfl ?_
      refine k_Bi_keyOf dX3_after_40 kw_BM_Bi_keyOf (by decide) (Nat.le_of_ble_eq_true rfl) ?_
      exact xs_iret hX rfl dX3_after_43 (by first | exact absurd rfl c24 | simp only [mBM_after, if_neg c10]) rfl
    · exact absurd (by first | exact (by rw [mBM_after, if_neg c10]; exact c24) | exact (by rw [mBM_after, if_pos c10])) hf
  · refine xs_iconst (v := zs 0) dX3_after_13 rfl ?_
    refine xs_goto (t := 22) dX3_after_14 (by decide) ?_
    refine xs_istore_n (L' := [(3, _), (2, _), (0, _), (1, _)]) dX3_after_22 (by decide) rfl ?_
    refine xs_iload_n 0 dX3_after_23 rfl ?_
    refine xs_sif_ne (t := 35) dX3_after_24 (by decide) (fun c24 => ?_) (fun c24 => ?_)
    · refine xs_aload_n 2 dX3_after_35 rfl ?_
      refine g_BM_bins dX3_after_36 ?_
      refine xs_iload_n 0 dX3_after_39 rfl ?_
      refine k_Bi_keyOf dX3_after_40 kw_BM_Bi_keyOf (by decide) (Nat.le_of_ble_eq_true rfl) ?_
      exact xs_iret hX rfl dX3_after_43 (by first | exact absurd rfl c24 | simp only [mBM_after, if_neg c10]) rfl
    · exact absurd (by first | exact (by rw [mBM_after, if_neg c10]; exact c24) | exact (by rw [mBM_after, if_pos c10])) hf
theorem k_BM_after {X : xz_X} {cA : ClassId} {own : String} {ad : Nat → Nat} {cc : ByteArray} {nL : Nat} {ret : Option FieldType} {R : Room} {s : zT} {pc ix : Nat} {L : List (Nat × Value)} {st : List Value} {key : Int32} (d : decode cc pc = .ok (.invokevirtual ix, 3)) (hw : xwV own ix yX3_after cX3_after 4 (some .int) 1) (hR : xroom R_BM_after 4 R) (hst : (st.map fun v => v.category).sum ≤ 8) (hr : rok s) (hf : ¬ mBM_after s key = 0) (kk : xs X cA own cc nL ret R (wd ad cA (s)) 0 0 (pc + 3) L (.int (s.2 0 (mBM_after s key)) :: st)) : xs X cA own cc nL ret R (wd ad cA s) 0 0 pc L (.int key :: .ref (ad 0) :: st) :=
  xs_call 0 (c_BM_after ad cA s key hr hf) rfl rfl d hw hR rfl rfl rfl hst ⟨Nat.zero_le _, Nat.zero_le _⟩ kk
abbrev RT_BM_after : Room := { frames := 6, cells := 1, slots := 6, locals := 85 }
set_option maxHeartbeats 4000000 in
set_option maxRecDepth 100000 in
theorem cT_BM_after (ad : Nat → Nat) (cA : ClassId) (s : zT) (key : Int32) (hr : rok s) (hf : mBM_after s key = 0) : xctT cA yX3_after cX3_after 4 (some .int) RT_BM_after [.ref (ad 0), .int key] (wd ad cA s) "java/util/NoSuchElementException" := by
  refine xctT_of (own := RX3) (by decide) rfl (Nat.le_of_ble_eq_true rfl) (fun X hX hEx => ?_)
  show xs X cA RX3 cX3_after 4 (some .int) RT_BM_after (wd ad cA s) 0 0 0 [(0, .ref (ad 0)), (1, .int key)] []
  refine xs_aload_n 0 dX3_after_0 rfl ?_
  refine g_BM_bins dX3_after_1 ?_
  refine xs_iload_n 1 dX3_after_4 rfl ?_
  refine k_Bi_find dX3_after_5 kw_BM_Bi_find (by decide) (Nat.le_of_ble_eq_true rfl) hr ?_
  refine xs_istore_n (L' := [(2, _), (0, _), (1, _)]) dX3_after_8 (by decide) rfl ?_
  refine xs_iload_n 0 dX3_after_9 rfl ?_
  refine xs_sif_ne (t := 17) dX3_after_10 (by decide) (fun c10 => ?_) (fun c10 => ?_)
  · refine xs_aload_n 1 dX3_after_17 rfl ?_
    refine xs_iload_n 0 dX3_after_18 rfl ?_
    refine k_BM_behind dX3_after_19 kw_BM_BM_behind (by decide) (Nat.le_of_ble_eq_true rfl) hr ?_
    refine xs_istore_n (L' := [(3, _), (2, _), (0, _), (1, _)]) dX3_after_22 (by decide) rfl ?_
    refine xs_iload_n 0 dX3_after_23 rfl ?_
    refine xs_sif_ne (t := 35) dX3_after_24 (by decide) (fun c24 => ?_) (fun c24 => ?_)
    · exact absurd (by first | exact absurd rfl c24 | (simp only [mBM_after, if_neg c10] at hf; exact hf)) c24
    · exact xs_throw hX hEx dX3_after_27 dX3_after_30 dX3_after_31 dX3_after_34 xcl_NoSuchElementException xin_NoSuchElementException xii_NoSuchElementException xat_NoSuchElementException (by decide) (by decide)
  · refine xs_iconst (v := zs 0) dX3_after_13 rfl ?_
    refine xs_goto (t := 22) dX3_after_14 (by decide) ?_
    refine xs_istore_n (L' := [(3, _), (2, _), (0, _), (1, _)]) dX3_after_22 (by decide) rfl ?_
    refine xs_iload_n 0 dX3_after_23 rfl ?_
    refine xs_sif_ne (t := 35) dX3_after_24 (by decide) (fun c24 => ?_) (fun c24 => ?_)
    · exact absurd (by first | exact absurd rfl c24 | (simp only [mBM_after, if_neg c10] at hf; exact hf)) c24
    · exact xs_throw hX hEx dX3_after_27 dX3_after_30 dX3_after_31 dX3_after_34 xcl_NoSuchElementException xin_NoSuchElementException xii_NoSuchElementException xat_NoSuchElementException (by decide) (by decide)
end
section
/-! CATCHING -/
/-- the first handler's class is resolved by the search itself -/
theorem xfind_cold {e : Env} {s : State} {f : JFrame} {a : Addr} {meth : Method} {code : Code} (hm : s.vm.method? f.method = some meth) (hc : meth.code = some code) {x : ExceptionTableEntry} {t : List ExceptionTableEntry} (htab : code.exceptionTable.toList = x :: t) (hx : covers x f.pc = true) (h0 : x.catchType ≠ 0)
    {c : ClassId} {vm' : Vm} (hg : (Jvm.resolveClass f.method.cls x.catchType).Gives e.toSetting s.vm (.ok c) vm') (hsz : vm'.classes.size ≤ s.vm.classes.size) {cell : Cell} (hcell : s.heap[a]? = some cell) (hobj : ∀ k, cell.vm ≠ .statics k) (hk : ∃ k, vm'.classes[cell.cls]? = some k) (hcc : ∃ k, vm'.classes[c]? = some k) (hfit : vm'.assignable cell.cls c = true) :
    ∀ (Q : Handler → Pre) (E : CtlPost) (d : Bool) (acts : List Action), wp (findHandler f a) Q E e d acts s ↔ Q (.found x.handlerPc) d acts (s.setVm vm') := by
  intro Q E d acts
  rw [W.findHandler_eq hm hc, htab]
  obtain ⟨ha, ht⟩ := hg.op (op := VmOp.resolveClass f.method.cls x.catchType) rfl
  simp only [covers] at hx
  simp [findHandler.go, hx, h0, ha, ht, hsz, hcell, hobj, hk, hcc, hfit, VmOp.dirties, VmOp.acts]
theorem xcaught {tb : Tables} {e : Env} {s target : State} {g : JFrame} {c : Code} {below : List Frame} {a : Addr} (h : At s g.method c below) {pc : Nat} {vm' : Vm}
    (hfind : ∀ (Q : Handler → Pre) (E : CtlPost) (d : Bool) (acts : List Action), wp (findHandler g a) Q E e d acts ((s.setTop g).pushFrame (.throwing a)) ↔ Q (.found pc) d acts (((s.setTop g).pushFrame (.throwing a)).setVm vm'))
    (hrest : Steps tb e below ((s.setVm vm').setTop { g with pc := pc, stack := [.ref a] }) target) : Steps tb e below ((s.setTop g).pushFrame (.throwing a)) target := by
  obtain ⟨hgo, hw⟩ := h.throwing a
  have key : ∀ (S : State) (r : List Frame), (∀ (Q : Handler → Pre) (E : CtlPost) (d : Bool) (acts : List Action), wp (findHandler g a) Q E e d acts S ↔ Q (.found pc) d acts (S.setVm vm')) →
      (stepThrowing e S a (.java g :: r)).Is ((S.setVm vm').setFrames (.java { g with pc := pc, stack := [.ref a] } :: r)) [] := by
    intro S r hf
    simp only [stepThrowing, searchFrame, vmDo]
    generalize hr : Sem.go _ e false [] S = res
    obtain ⟨as, rfl, ha⟩ := Sem.eq_ok_of hr (a := Handler.found pc) (s' := S.setVm vm') (acts' := []) (by simp [hf _ _ _ _])
    exact ⟨rfl, ha⟩
  refine Steps.head hgo hw ?_
  rw [stepThread_throwing (frames_entered h.top _), (key _ _ hfind).1]
  obtain ⟨g₀, hg⟩ := Option.isSome_iff_exists.mp h.top
  obtain ⟨r, hr⟩ := State.topJava?_eq_some.mp hg
  have hr' : (s.setVm vm').frames = .java g₀ :: r := hr
  rw [State.setTop_of_frames _ hr'] at hrest
  have e1 : ((((s.setTop g).pushFrame (.throwing a)).setVm vm').setFrames (.java { g with pc := pc, stack := [.ref a] } :: s.frames.tail)) = (s.setVm vm').setFrames (.java { g with pc := pc, stack := [.ref a] } :: r) := by
    rw [State.setTop_of_frames _ hr, State.pushFrame, State.setFrames_setFrames, hr]
    show (((s.setFrames _).setFrames _).setVm vm') = (s.setFrames _).setVm vm'
    rw [State.setFrames_setFrames]
    rfl
  rw [e1]
  exact hrest
section XCT
variable {p : Program} {l : Launch} {e : Env} {R : Room} {s : State} {m : MethodId} {args : Array Value} {below : List Frame} {meth : Method} {c : Code} {T : State} {locs : List Loc} {cells slots : Nat}
/-- a call whose callee throws: the note lies over the caller's frame -/
theorem xcallT (X : Stand p l e R s m args below meth c T locs cells slots) (hexec : p.tables.exec = Jvm.exec) {own C : String} {index maxL n mc ms : Nat} {y : MethodName} {bytes : ByteArray} {ret : Option FieldType} {ws : List Cond} {rm : Room} {Pc : Array Value → State → Prop} {Qc : Array Value → State → Outcome → State → Prop} {free : Addr → Prop}
    (hM : xMT l y ws rm Pc Qc mc ms free) (hbl : FrameBlind Pc) (cw : CallW R s args own C index y bytes maxL ret ws rm mc ms n) (hown : s.vm.findClass own = some m.cls) {b : Addr} {cellB : Cell} (hcell : T.heap[b]? = some cellB) (hobj : cellB.vm.isStatics = false) (hcls : s.vm.findClass C = some cellB.cls)
    {g : JFrame} (hg : g.method = m) (hsize : g.locals.size = c.maxLocals) {As rest : List Value} (hn : As.length = n) (hstack : g.stack = As.reverse ++ .ref b :: rest) (hW : 2 * ({ g with stack := rest } : JFrame).monitorRoom + (rest.map fun v => v.category).sum ≤ 8) (hdg : decode c.code g.pc = .ok (.invokevirtual index, 3))
    (hf : cells + mc ≤ R.cells ∧ slots + ms ≤ R.slots) (hPc : ∀ U : State, U.heap = T.heap → s.WarmedH U.vm → Pc (Value.ref b :: As).toArray U) :
    ∃ (x : Addr) (st₀ t T' : State) (L : List Loc), st₀.heap = T.heap ∧ s.vm.Alike st₀.vm ∧ Stand p l e R s m args below meth c T' (locs ++ L) (cells + mc) (slots + ms) ∧ (∀ q ∈ L, free q.base) ∧ T'.heap = t.heap ∧ Qc (Value.ref b :: As).toArray st₀ (.threw x) t ∧
      ∀ target, Steps p.tables e below ((T'.setTop { g with stack := rest }).pushFrame (.throwing x)) target → Steps p.tables e below (T.setTop g) target := by
  obtain ⟨⟨hrc, hrs, hfr, hlo, hws, hcw, hcode, hini, hy, hlen, hlink⟩, hinst, hsel⟩ := cw
  obtain ⟨mk, methM, hnamed, hmethM, hstM, habM⟩ := Cond.instanceMethod_spec hinst
  obtain ⟨methM', cM, hmethM', -, -, -, -, -, -, hsigM⟩ := Cond.code_spec hnamed hcode
  cases hmethM.symm.trans hmethM'
  obtain ⟨c2, r2, m2, q1, q2, q3, q4, kP, hkP, hkPi⟩ := Cond.selects_spec hsel
  cases hcls.symm.trans q1
  cases (State.methodFound?_of_named hnamed hy).symm.trans q2
  cases hnamed.symm.trans q3
  have hselP : selectMethod e.platform s.vm cellB.cls mk = .method mk := by rw [Launch.admits_selectMethod X.admits]; exact q4
  obtain ⟨vm₁, X₁, hstep₁⟩ := X.invokevirtual hexec hown hlink hnamed hmethM hstM hkP hkPi hy (a := b) (cell := cellB) hcell
    (fun z h => by rw [h] at hobj; cases hobj) hselP hmethM habM hkP hkPi (g := g) hg (argsL := As) (rest := rest) (hn.trans (hlen _ hsigM)) hstack hdg
  have hn1 := X₁.named hnamed
  have h2 : (Cond.code y bytes maxL ret).before #[] (T.setVm vm₁) = true := hws _ hcw _ _ X₁.warmed
  obtain ⟨methY, cY, hmY, hcY, -, hlY, -⟩ := Cond.code_spec hn1 h2
  obtain ⟨kY, hkY, -⟩ := className_of_methodNamed hn1
  have hini1 : (Cond.initialized y.cls).before #[] (T.setVm vm₁) = true := word_at X₁.warmed (Or.inl (by first | rfl | simp [Cond.onTables, Cond.keeps, Cond.steady])) hini
  have hinitY : kY.init = .initialized := Cond.initialized_spec (findClass_of_methodNamed hn1) hkY hini1
  have h : At (T.setVm vm₁) ({ g with stack := rest } : JFrame).method c below := by show At (T.setVm vm₁) g.method c below; rw [hg]; exact X₁.here
  have happ : (headSpec ws rm).appliesLoose y e.platform ((T.setVm vm₁).calling { g with stack := rest } mk (Value.ref b :: As).toArray) = true :=
    Spec.appliesLoose_calling (g := { g with stack := rest }) h hdg hn1 hkY hinitY (X₁.room_calling (g := { g with stack := rest }) (R' := rm) hsize hmY hcY hfr (by rw [hlY]; show 2 * ({ g with stack := rest } : JFrame).monitorRoom + (rest.map fun v => v.category).sum + _ + _ ≤ _; omega) (by omega) (by omega)) (atoms_intro fun w hw => hws w hw _ _ X₁.warmed)
  have hfrm : ((T.setVm vm₁).setTop { g with stack := rest }).frames = [.java { g with stack := rest }] ++ below := by rw [State.frames_setTop' _ h.top, X₁.tail]; rfl
  obtain ⟨o, s₂, hsteps, -, hend, hq, L, ⟨⟨x, rfl⟩, hW₂, hsame⟩, hL⟩ := Steps.callFree hM p X₁.admits X₁.cas X₁.clock (acts := []) hfrm happ (hbl _ _ { g with stack := rest } mk (hPc (T.setVm vm₁) rfl X₁.warmed)) trivial
  rw [hfrm] at hend
  obtain ⟨T', X', hWT, hsT, ht⟩ := X₁.outOfThrown (g := { g with stack := rest }) hg hend hW₂ hsame
  refine ⟨x, (T.setVm vm₁).calling { g with stack := rest } mk (Value.ref b :: As).toArray, s₂, T', L, rfl, X₁.warmed.alike, X', hL, by rw [ht]; exact (throwing_heap T' { g with stack := rest } x).symm, hq, fun target htg => hstep₁ _ fun acts => ?_⟩
  rw [doInvoke_state]
  exact hsteps.trans (by rw [ht]; exact htg)
end XCT
end
section
/-! WORLDS SIDE BY SIDE -/
theorem xP_l {D : va_G} {wc wr : va_W} {H : Heap} (h : va_P D vwCl (wc ++ wr) H) : va_P D vwCl wc H := fun k q hq => h k q (by rw [List.getElem?_append_left (List.getElem?_eq_some_iff.mp hq).1]; exact hq)
theorem xP_r {D : va_G} {wc wr : va_W} {H : Heap} (h : va_P D vwCl (wc ++ wr) H) : va_P D vwCl wr H := fun k q hq => h (wc.length + k) q (by rw [List.getElem?_append_right (by omega), Nat.add_sub_cancel_left]; exact hq)
theorem xD_l {A : Nat → Prop} {wc wr : va_W} (h : va_D A (wc ++ wr)) : va_D A wc :=
  ⟨fun i j p q hi hj e => h.1 i j p q (by rw [List.getElem?_append_left (List.getElem?_eq_some_iff.mp hi).1]; exact hi) (by rw [List.getElem?_append_left (List.getElem?_eq_some_iff.mp hj).1]; exact hj) e,
   fun k q hq => h.2 k q (by rw [List.getElem?_append_left (List.getElem?_eq_some_iff.mp hq).1]; exact hq)⟩
theorem xD_r {A : Nat → Prop} {wc wr : va_W} (h : va_D A (wc ++ wr)) : va_D A wr :=
  ⟨fun i j p q hi hj e => by
      have := h.1 (wc.length + i) (wc.length + j) p q (by rw [List.getElem?_append_right (by omega), Nat.add_sub_cancel_left]; exact hi) (by rw [List.getElem?_append_right (by omega), Nat.add_sub_cancel_left]; exact hj) e
      omega,
   fun k q hq => h.2 (wc.length + k) q (by rw [List.getElem?_append_right (by omega), Nat.add_sub_cancel_left]; exact hq)⟩
theorem xD_x {A : Nat → Prop} {wc wr : va_W} (h : va_D A (wc ++ wr)) : ∀ (i j : Nat) (p q : Nat × va_E), wc[i]? = some p → wr[j]? = some q → p.1 ≠ q.1 := by
  intro i j p q hi hj e
  have hl := (List.getElem?_eq_some_iff.mp hi).1
  have := h.1 i (wc.length + j) p q (by rw [List.getElem?_append_left hl]; exact hi) (by rw [List.getElem?_append_right (by omega), Nat.add_sub_cancel_left]; exact hj) e
  omega
theorem xjoin {A : Nat → Prop} {D : va_G} {wc wr w1 : va_W} {H H1 : Heap} (hP : va_P D vwCl (wc ++ wr) H) (hD : va_D A (wc ++ wr)) (hk : ∀ q : Nat, q < H.size → ¬ va_A wc H.size q → H1[q]? = H[q]?) (hF : ∀ q, va_A wc H.size q → A q) (hP1 : va_P D vwCl w1 H1) (hD1 : va_D (va_A wc H.size) w1) : va_P D vwCl (w1 ++ wr) H1 ∧ va_D A (w1 ++ wr) := by
  have apart : ∀ (k : Nat) (q : Nat × va_E), wr[k]? = some q → q.1 < H.size ∧ ¬ va_A wc H.size q.1 := by
    intro k q hq
    have hl := (xP_r hP k q hq).lt
    refine ⟨hl, fun h => ?_⟩
    rcases h with ⟨j, e, h⟩ | h
    · exact xD_x hD j k (q.1, e) q h hq rfl
    · omega
  refine ⟨va_P.app hP1 (fun k q hq => ?_), va_D.app (hD1.weaken (fun _ q _ h => hF q.1 h)) (xD_r hD) (fun i j x y hx hy e => ?_)⟩
  · obtain ⟨g1, g2⟩ := apart k q hq
    exact (xP_r hP k q hq).kept (hk q.1 g1 g2)
  · exact (apart j y hy).2 (by rw [← e]; exact hD1.2 i x hx)
section XF
variable {X : xz_X} {cA : ClassId} {own : String} {cc : ByteArray} {nL : Nat} {ret : Option FieldType} {R : Room} {ws wc wr : va_W} {k n pc : Nat} {L : List (Nat × Value)} {st st0 : List Value}
theorem xs_swap (kk : xs X cA own cc nL ret R (wr ++ wc) k n pc L st) : xs X cA own cc nL ret R (wc ++ wr) k n pc L st := by
  obtain ⟨p, l, e, s, m, args, below, meth, c, D, A, Q, ty2⟩ := X
  intro v H locs ls hP hD hS hl
  exact kk v H locs ls (va_P.app (xP_r hP) (xP_l hP)) (va_D.app (xD_r hD) (xD_l hD) (fun i j x y hx hy e => xD_x hD j i y x hy hx e.symm)) hS hl
theorem xs_ws {w1 : va_W} (h : ws = w1) (kk : xs X cA own cc nL ret R w1 k n pc L st) : xs X cA own cc nL ret R ws k n pc L st := h ▸ kk
/-- a call over the first part of the world -/
theorem xs_callF {y : MethodName} {cc' : ByteArray} {nL' ix ci N b : Nat} {ret' : Option FieldType} {R' : Room} {As : List Value} {r : Option Value} {w1 : va_W} {T : u_T} {fs : List Value} (q0 : Nat) (hc : xct cA y cc' nL' ret' R' (.ref b :: As) wc r w1) (h0 : R'.cells = 0) (h1 : R'.slots = 0) (d : decode cc pc = .ok (.invokevirtual ix, 3)) (hw : xwV own ix y cc' nL' ret' As.length) (hR : xroom R' nL' R)
    (he : wc[q0]? = some (b, .inr (ci, fs))) (hci : vwCl[ci]? = some (y.cls, T, N)) (hs0 : st0 = As.reverse ++ .ref b :: st) (hst : (st.map fun v => v.category).sum ≤ 8) (hkn : k ≤ R.cells ∧ n ≤ R.slots)
    (kk : xs X cA own cc nL ret R (w1 ++ wr) k n (pc + 3) L (r.toList ++ st)) : xs X cA own cc nL ret R (wc ++ wr) k n pc L st0 := by
  obtain ⟨p, l, e, s, m, args, below, meth, c, D, A, Q, ty2⟩ := X
  intro v H locs ls hP hD hS hl
  obtain ⟨⟨hx, hb, hml, hown, hts⟩, hK, hA, hlk, hrr, hfl, hns⟩ := id v
  have hc := hc l D H.size hfl
  have hK1 : va_K D vwCl [(cA, .int)] s := hK.sub [0] rfl
  rw [h0, h1] at hc
  obtain ⟨⟨w1', w2, w3, w4⟩, w5, w6⟩ := hw
  have hPc := xP_l hP
  have hDc := xD_l hD
  have hF : ∀ q, va_A wc H.size q → A q := fun q h => by
    rcases h with ⟨j, e9, h⟩ | h
    · exact hDc.2 j _ h
    · exact hA q (Nat.le_trans hS.1 h)
  refine xs_after (va_runV (C := y.cls) (As := As) (rest := st) ⟨hx, hb, hml, hown, hts⟩ hc ⟨callB_of As.length hts (gl_code w1') rfl h0 h1 (hts _ w2) (hts _ w3) w4 hR, hts _ w5, hts _ w6⟩ ⟨xP_blind, va_recv hK hPc hci he, fun U hU hW => ⟨rfl, by rw [hU], by rw [hU]; exact hPc, va_K.moved hW.alike hK1, hDc.weaken (fun _ _ _ _ => trivial)⟩⟩ rfl rfl hl.1 hs0 (lv_room hst) d hkn) hS (fun q _ h => hF q h) hF (fun H1 locs1 hP1 hD1 _ hk1 hS1 => ?_)
  obtain ⟨j1, j2⟩ := xjoin hP hD hk1 hF hP1 hD1
  exact kk v H1 locs1 ls j1 j2 hS1 hl
theorem xs_last {a N : Nat} {f : Nat → Int64} {i : Int32} {x : Int64} {w1 : va_W} {cL : ClassId} (q0 : Nat) (hty : X.2.2.2.2.2.2.2.2.2.2.2.2 = [(cL, .long)]) (d : decode cc pc = .ok (.lastore, 1)) (he : ws[q0]? = some (a, .inl (cL, N, .inr (.inl f)))) (hi : vp_in i N) (hw : ws.set q0 (a, .inl (cL, N, .inr (.inl (vp_updL f i.toNatClampNeg x)))) = w1)
    (kk : xs X cA own cc nL ret R w1 k n (pc + 1) L st) : xs X cA own cc nL ret R ws k n pc L (.long x :: .int i :: .ref a :: st) := by
  obtain ⟨p, l, e, s, m, args, below, meth, c, D, A, Q, ty2⟩ := X
  subst hw
  have hty : ty2 = [(cL, .long)] := hty
  subst hty
  intro v H locs ls hP hD hS hl
  obtain ⟨⟨hx, hb, hml, hown, hts⟩, hK, hA, hlk, hr, hfl, hns⟩ := id v
  exact va_last hx hb hK hP hD hS q0 1 he rfl hi d (fun H1 locs1 hP1 hD1 hS1 => kk v H1 locs1 ls hP1 hD1 hS1 hl)
end XF
/-- a method with handlers, at whose start an exception can be made -/
def xHX (X : xz_X) (hh : List (Nat × Nat × Nat × Nat)) : Prop := match X with
  | (_, _, _, s, _, _, _, _, c, _, A, _, _) => xE A s s.heap ∧ c.exceptionTable.toList.map (fun h => (h.startPc, h.endPc, h.handlerPc, h.catchType)) = hh
set_option maxHeartbeats 4000000 in
/-- a call over the first part of the world, whose callee throws; caught here -/
theorem xs_callT {X : xz_X} {cA : ClassId} {own : String} {cc : ByteArray} {nL : Nat} {ret : Option FieldType} {R : Room} {wc wr : va_W} {k n pc : Nat} {L : List (Nat × Value)} {st st0 : List Value} {y : MethodName} {cc' : ByteArray} {nL' ix ci N b : Nat} {ret' : Option FieldType} {R' : Room} {As : List Value} {E : String} {T0 : u_T} {fs : List Value} {h0 h1 h2 ct : Nat} (q0 : Nat) (hc : xctT cA y cc' nL' ret' R' (.ref b :: As) wc E) (hHX : xHX X [(h0, h1, h2, ct)])
    (d : decode cc pc = .ok (.invokevirtual ix, 3)) (hw : xwV own ix y cc' nL' ret' As.length) (hR : xroom R' nL' R) (he : wc[q0]? = some (b, .inr (ci, fs))) (hci : vwCl[ci]? = some (y.cls, T0, N)) (hs0 : st0 = As.reverse ++ .ref b :: st) (hst : (st.map fun v => v.category).sum ≤ 8) (hkn : k + R'.cells ≤ R.cells ∧ n + R'.slots ≤ R.slots)
    (hcov : (decide (h0 ≤ pc) && decide (pc < h1)) = true) (hct : ct ≠ 0) (hcl : Cond.classLink own ct E ∈ xt_tbl) (hcast : Cond.castable E E ∈ xBad)
    (kk : ∀ a : Nat, xs X cA own cc nL ret R (wc ++ wr) (k + R'.cells) (n + R'.slots) h2 L [.ref a]) : xs X cA own cc nL ret R (wc ++ wr) k n pc L st0 := by
  obtain ⟨p, l, e, s, m, args, below, meth, c, D, A, Q, ty2⟩ := X
  intro v H locs ls hP hD hS hl
  obtain ⟨⟨hx, hb, hml, hown, hts⟩, hK, hA, hlk, hrr, hfl, hns⟩ := id v
  obtain ⟨hE, hhd⟩ := hHX
  have hc := hc l D H.size hfl
  have hK1 : va_K D vwCl [(cA, .int)] s := hK.sub [0] rfl
  obtain ⟨⟨w1', w2, w3, w4⟩, w5, w6⟩ := hw
  have hPc := xP_l hP
  have hDc := xD_l hD
  have hF : ∀ q, va_A wc H.size q → A q := fun q h => by
    rcases h with ⟨j, e9, h⟩ | h
    · exact hDc.2 j _ h
    · exact hA q (Nat.le_trans hS.1 h)
  intro T hT X0
  obtain ⟨cellB, hcB, hoB, hclB⟩ := va_recv hK hPc hci he
  have hEH : xE A s H := hE.kept (fun a h1 h2 => hS.2.1 a h1 h2)
  obtain ⟨x, st₀, t, T', Ls, e0, eal, X', hL, eh, ⟨⟨a, cell, hox, hcell, hvm, hfE, hsz, hP1, hD1⟩, hz, hk1⟩, hst'⟩ := xcallT X0 hx hc
    (fun a U g mk q => by obtain ⟨q0, q1, qP, qK, qD, qE⟩ := q; exact ⟨q0, q1, qP, va_K.moved (u := U) (U := U.calling g mk a) (Vm.Alike.refl U.vm) qK, qD, xE.moved (U := U.calling g mk a) (Vm.Alike.refl U.vm) qE⟩)
    ⟨callB_of As.length hts (gl_code w1') rfl rfl rfl (hts _ w2) (hts _ w3) w4 hR, hts _ w5, hts _ w6⟩ hown (by rw [hT]; exact hcB) hoB hclB (g := F0 m pc ls st0) rfl (hl.1.trans hml.symm) (As := As) (rest := st) rfl hs0 (lv_room hst) (by rw [hb]; exact d) hkn
    (fun U hU hW => ⟨rfl, by rw [hU, hT], by rw [hU, hT]; exact hPc, va_K.moved hW.alike hK1, hDc.weaken (fun _ _ _ _ => trivial), (hEH.narrow hF).moved hW.alike |> fun q => by rw [hU, hT]; exact q⟩)
  cases hox
  rw [e0, hT] at hz hk1 hsz
  rw [← eh] at hP1 hcell hz hk1
  obtain ⟨j1, j2⟩ := xjoin hP hD hk1 hF hP1 hD1
  have hS1 : va_S A s.heap T'.heap (locs ++ Ls) := ⟨Nat.le_trans hS.1 hz, fun q h1 h2 => by rw [hk1 q (Nat.lt_of_lt_of_le h1 hS.1) (fun z => h2 (hF q z))]; exact hS.2.1 q h1 h2, fun q hq => by
      rcases List.mem_append.mp hq with h | h
      · exact hS.2.2 q h
      · exact hF _ (hL q h)⟩
  -- the handler
  have hpl : e.platform.magicAccessors = ({} : Platform).magicAccessors := by rw [X'.admits.platform]
  obtain ⟨cE, hfcE, hlk2⟩ := Cond.classLink_spec hown (hts _ hcl) e.platform hpl
  obtain ⟨hg, hwarm, hready⟩ := State.classEntry (e := e) X'.warmed hlk2
  have hsame : cell.cls = cE := by
    have h1 : st₀.vm.findClass E = s.vm.findClass E := eal.findClass E _
    rw [h1, hfcE] at hfE
    exact (Option.some.inj hfE).symm
  obtain ⟨c3, t3, g1, g2, g3⟩ := Cond.castable_spec (hE.2.2.1 _ hcast)
  cases hfcE.symm.trans g1
  cases hfcE.symm.trans g2
  obtain ⟨kE, hkE⟩ := Vm.classAt_of_findClass (vm := T'.vm.noted m.cls ct (.cls cE)) (name := E) (by rw [hwarm.alike.findClass]; exact hfcE)
  obtain ⟨x0, hx0, hxx⟩ : ∃ x0, c.exceptionTable.toList = [x0] ∧ (x0.startPc, x0.endPc, x0.handlerPc, x0.catchType) = (h0, h1, h2, ct) := by
    cases hq : c.exceptionTable.toList with
    | nil => rw [hq] at hhd; simp at hhd
    | cons x0 t0 =>
      rw [hq] at hhd
      cases t0 with
      | nil => exact ⟨x0, rfl, by simpa using hhd⟩
      | cons y0 z0 => simp at hhd
  simp only [Prod.mk.injEq] at hxx
  obtain ⟨b1, b2, b3, b4⟩ := hxx
  have hfind := xfind_cold (e := e) (s := (T'.setTop (F0 m pc ls st)).pushFrame (.throwing x)) (f := F0 m pc ls st) (a := x) (meth := meth) (code := c) (by rw [throwing_vm]; exact X'.method') X'.code (x := x0) (t := []) hx0 (by simp only [covers]; rw [b1, b2]; exact hcov) (by rw [b4]; exact hct) (c := cE) (vm' := T'.vm.noted m.cls ct (.cls cE)) (by rw [throwing_vm, b4]; exact hg) (by rw [throwing_vm]; simp) (cell := cell) (by rw [throwing_heap]; exact hcell) (by rw [hvm]; intro k h; cases h) ⟨kE, by rw [hsame]; exact hkE⟩ ⟨kE, hkE⟩ (by rw [hwarm.alike.assignable, hsame]; exact g3)
  have X2 := X'.noted hwarm
  have KW := kk x v T'.heap (locs ++ Ls) ls j1 j2 hS1 hl
  obtain ⟨t2, a1, a2⟩ := KW (T'.setVm (T'.vm.noted m.cls ct (.cls cE))) rfl X2
  refine ⟨t2, hst' t2 (xcaught (g := F0 m pc ls st) (by exact X'.here) hfind ?_), a2⟩
  rw [b3]
  exact a1
end
section
/-! METHODS WITH HANDLERS -/
def xctW (cA cL : ClassId) (y : MethodName) (cc : ByteArray) (nL : Nat) (ret : Option FieldType) (hh : List (Nat × Nat × Nat × Nat)) (R : Room) (av : List Value) (ws : va_W) (r : Option Value) (w1 : va_W) : Prop :=
  ∀ (l : Launch) (D : va_G) (sz : Nat), l.flags = flags0 → Met l y (.codeWith y cc nL ret hh :: xt_tbl) R (va_Pc av (fun U => U.heap.size = sz ∧ va_P D vwCl ws U.heap ∧ va_K D vwCl [(cA, .int), (cL, .long)] U ∧ va_D (fun _ => True) ws ∧ xE (va_A ws sz) U U.heap)) (xq D cA (va_A ws sz) r w1) R.cells R.slots (va_A ws sz)
abbrev xty (X : xz_X) : List (ClassId × FieldType) := X.2.2.2.2.2.2.2.2.2.2.2.2
theorem xctW_of {cA cL : ClassId} {y : MethodName} {own : String} {cc : ByteArray} {nL : Nat} {ret : Option FieldType} {hh : List (Nat × Nat × Nat × Nat)} {R : Room} {av : List Value} {ws : va_W} {r : Option Value} {w1 : va_W}
    (hy : plainName y.cls = true) (hown : y.cls = own) (hn : (lg_sl av).length ≤ nL) (body : ∀ X : xz_X, xfin X cA R.cells R.slots r w1 → xHX X hh → xty X = [(cL, .long)] → xs X cA own cc nL ret R ws 0 0 0 (lv_args 0 av) []) : xctW cA cL y cc nL ret hh R av ws r w1 := by
  intro l D sz hfl
  refine va_MetW (cc := cc) (maxL := nL) (ret := ret) (hh := hh) hy rfl ?_
  intro p e s m args below meth c s₁ B hml hv
  obtain ⟨rfl, hsz, hP, hK, hD0, hE⟩ := hv
  have hts := atoms_spec (ws := .codeWith y cc nL ret hh :: xt_tbl) B.pre
  have hfc : s.vm.findClass own = some m.cls := by rw [← hown]; exact findClass_of_methodNamed B.named
  subst hsz
  have hD := hD0.self (sz := s.heap.size)
  have hl := lv_entry av (n := nL) hn
  rw [lg_entry_eq]
  have hhd : c.exceptionTable.toList.map (fun h => (h.startPc, h.endPc, h.handlerPc, h.catchType)) = hh := by
    obtain ⟨m9, meth9, c9, g1, g2, g3, -, -, g4, -⟩ := Cond.codeWith_spec (hts _ List.mem_cons_self)
    cases B.named.symm.trans g1
    cases B.method.symm.trans g2
    cases (Stand.of_body B).code.symm.trans g3
    exact g4
  exact body (p, l, e, s, m, av.toArray, below, meth, c, D, va_A ws s.heap.size, MQ below (xq D cA (va_A ws s.heap.size) r w1) av.toArray s R.cells R.slots (va_A ws s.heap.size), [(cL, .long)]) rfl ⟨hE, hhd⟩ rfl
    ⟨⟨B.exec, B.bytes, hml, hfc, fun w hw => hts w (List.mem_cons_of_mem _ hw)⟩, hK, fun q h => Or.inr h, B.notSynchronized, B.returns, hfl, xa_ns hP⟩ s.heap [] _ hP hD va_S.rf hl
def xwW (own : String) (ix : Nat) (y : MethodName) (cc : ByteArray) (nL : Nat) (ret : Option FieldType) (hh : List (Nat × Nat × Nat × Nat)) (a : Nat) : Prop :=
  Cond.codeWith y cc nL ret hh ∈ xt_tbl ∧ Cond.initialized y.cls ∈ xt_tbl ∧ Cond.methodLink own ix y ∈ xt_tbl ∧ Cond.static y ∈ xt_tbl ∧ (y.cls ≠ "java/lang/invoke/MethodHandle" ∧ y.cls ≠ "java/lang/invoke/VarHandle" ∧ (parseMethodDescriptor y.desc).map (fun d => d.parameters.length) = some a)
section XW
variable {X : xz_X} {cA : ClassId} {own : String} {cc : ByteArray} {nL : Nat} {ret : Option FieldType} {R : Room} {ws wc wr : va_W} {k n pc : Nat} {L : List (Nat × Value)} {st st0 : List Value}
theorem xs_astore_n {i : Fin 4} {x : Nat} {L' : List (Nat × Value)} (d : decode cc pc = .ok (.astore_n i, 1)) (hn : (i : Nat) < nL) (hl : ((i : Nat), Value.ref x) :: L.filter (fun q => !(q.1 == (i : Nat)) && !(q.1 + 1 == (i : Nat) && q.2.category == 2)) = L') (kk : xs X cA own cc nL ret R ws k n (pc + 1) L' st) : xs X cA own cc nL ret R ws k n pc L (.ref x :: st) :=
  xs_lo (fun S h K => lv_astore_n S.1 S.2.1 d rfl h hn hl K) kk
theorem xs_astore {i : Nat} {x : Nat} {L' : List (Nat × Value)} (d : decode cc pc = .ok (.astore i, 2)) (hn : i < nL) (hl : (i, Value.ref x) :: L.filter (fun q => !(q.1 == i) && !(q.1 + 1 == i && q.2.category == 2)) = L') (kk : xs X cA own cc nL ret R ws k n (pc + 2) L' st) : xs X cA own cc nL ret R ws k n pc L (.ref x :: st) :=
  xs_lo (fun S h K => lv_astore S.1 S.2.1 d h hn hl K) kk
/-- an exception can be made, as far as the start of X tells -/
def xEl (X : xz_X) : Prop := match X with
  | (_, _, _, s, _, _, _, _, _, _, A, _, _) => xE A s s.heap
set_option maxHeartbeats 4000000 in
/-- a call of a static method with handlers, over the first part of the world -/
theorem xs_callW {y : MethodName} {cc' : ByteArray} {nL' ix : Nat} {cL : ClassId} {ret' : Option FieldType} {hh : List (Nat × Nat × Nat × Nat)} {R' : Room} {As : List Value} {r : Option Value} {w1 : va_W} (hc : xctW cA cL y cc' nL' ret' hh R' As wc r w1) (hty : xty X = [(cL, .long)]) (hE : xEl X) (d : decode cc pc = .ok (.invokestatic ix, 3)) (hw : xwW own ix y cc' nL' ret' hh As.length) (hR : xroom R' nL' R)
    (hs0 : st0 = As.reverse ++ st) (hst : (st.map fun v => v.category).sum ≤ 8) (hkn : k + R'.cells ≤ R.cells ∧ n + R'.slots ≤ R.slots)
    (kk : xs X cA own cc nL ret R (w1 ++ wr) (k + R'.cells) (n + R'.slots) (pc + 3) L (r.toList ++ st)) : xs X cA own cc nL ret R (wc ++ wr) k n pc L st0 := by
  obtain ⟨p, l, e, s, m, args, below, meth, c, D, A, Q, ty2⟩ := X
  have hty : ty2 = [(cL, .long)] := hty
  subst hty
  intro v H locs ls hP hD hS hl
  obtain ⟨⟨hx, hb, hml, hown, hts⟩, hK, hA, hlk, hrr, hfl, hns⟩ := id v
  have hc := hc l D H.size hfl
  obtain ⟨w1', w2, w3, w4, w5⟩ := hw
  have hPc := xP_l hP
  have hDc := xD_l hD
  have hF : ∀ q, va_A wc H.size q → A q := fun q h => by
    rcases h with ⟨j, e9, h⟩ | h
    · exact hDc.2 j _ h
    · exact hA q (Nat.le_trans hS.1 h)
  have hEH : xE A s H := hE.kept (fun a h1 h2 => hS.2.1 a h1 h2)
  have hG : GoodIn xt_tbl (.codeWith y cc' nL' ret' hh :: xt_tbl) := gl_code w1'
  have hbl : FrameBlind (va_Pc As (fun U => U.heap.size = H.size ∧ va_P D vwCl wc U.heap ∧ va_K D vwCl [(cA, .int), (cL, .long)] U ∧ va_D (fun _ => True) wc ∧ xE (va_A wc H.size) U U.heap)) :=
    fun a U g mk q => by obtain ⟨q0, q1, qP, qK, qD, qE⟩ := q; exact ⟨q0, q1, qP, va_K.moved (u := U) (U := U.calling g mk a) (Vm.Alike.refl U.vm) qK, qD, xE.moved (U := U.calling g mk a) (Vm.Alike.refl U.vm) qE⟩
  have hB : Back l R p e below s args y 3 8 (PreOf R R'.cells R'.slots _) (PostOf _ R'.cells R'.slots _) := va_backW (hh := hh) (bytes := cc') (maxL := nL') (ret := ret') hc hbl rfl rfl hR.1 hR.2 (pay_in hts hG) List.mem_cons_self (fun a' U hW => word_at hW (Or.inl (by first | rfl | simp [Cond.onTables, Cond.keeps, Cond.steady])) (hts _ w2))
  have hrun : va_Run p l e R s m args below meth c H locs k n R'.cells R'.slots (F0 m pc ls st0) st (xq D cA (va_A wc H.size) r w1 As.toArray) (va_A wc H.size) := by
    intro T hT X0
    obtain ⟨mk, methM, cM, hnamed, hmethM, -, -, -, -, -, -, hsigM⟩ := Cond.codeWith_spec (hts _ w1')
    have hstatic : methM.isStatic = true := Cond.static_spec hnamed hmethM (hts _ w4)
    obtain ⟨kP, hkP, -⟩ := className_of_methodNamed hnamed
    have hinitP : kP.init = .initialized := Cond.initialized_spec (findClass_of_methodNamed hnamed) hkP (hts _ w2)
    have hlen : As.length = methM.sig.parameters.length := by
      have h2 := w5.2.2
      rw [hsigM] at h2
      exact (Option.some.inj h2).symm
    obtain ⟨vm₁, X₁, hstep₁⟩ := X0.invokestatic hx hown (hts _ w3) hnamed hmethM hstatic hkP hinitP ⟨w5.1, w5.2.1⟩ (g := F0 m pc ls st0) rfl (argsL := As) (rest := st) hlen hs0 (by rw [hb]; exact d)
    obtain ⟨v9, ⟨U', l2, c2, s2⟩, X', ⟨g', mk', t, L9, e1, e2, hq, h1, hL, h2, h3⟩, hsteps⟩ := hB m meth c ⟨T.setVm vm₁, locs, k, n⟩ (F0 m pc ls st) (.invokestatic ix) mk As.toArray X₁ rfl (hl.1.trans hml.symm) (by rw [hb]; exact d) (lv_room hst) (X₁.named hnamed)
      ⟨hkn.1, hkn.2, rfl, by show T.heap.size = _; rw [hT], by show va_P D vwCl wc T.heap; rw [hT]; exact hPc, va_K.moved X₁.warmed.alike hK, hDc.weaken (fun _ _ _ _ => trivial), by
        show xE (va_A wc H.size) (T.setVm vm₁) T.heap
        rw [hT]
        exact (hEH.narrow hF).moved X₁.warmed.alike⟩
    dsimp only [Pt.U, Pt.locs, Pt.cells, Pt.slots] at X' e1 e2 h1 h2 h3 hsteps
    subst h1; subst h2; subst h3
    exact ⟨v9, (T.setVm vm₁).calling g' mk' As.toArray, t, U', L9, hT, X', hL, e1, e2, hq, fun target h => hstep₁ _ fun acts => by rw [doInvoke_state]; exact hsteps.trans h⟩
  refine xs_after hrun hS (fun q _ h => hF q h) hF (fun H1 locs1 hP1 hD1 _ hk1 hS1 => ?_)
  obtain ⟨j1, j2⟩ := xjoin hP hD hk1 hF hP1 hD1
  exact kk v H1 locs1 ls j1 j2 hS1 hl
end XW
theorem xin01 : vp_in 0 1 := by unfold vp_in; decide
/-- the class's cells and the law's array for answers -/
abbrev wo (ad : Nat → Nat) (cA cL : ClassId) (o : Nat) (s : zT) (g : Nat → Int64) : va_W := wd ad cA s ++ [(o, .inl (cL, 1, .inr (.inl g)))]
end
section
theorem dL_make_0 : decode cL_make 0 = .ok (.aload 4, 2) := by decide +kernel
theorem dL_make_2 : decode cL_make 2 = .ok (.iconst 0, 1) := by decide +kernel
theorem dL_make_3 : decode cL_make 3 = .ok (.aload_n 0, 1) := by decide +kernel
theorem dL_make_4 : decode cL_make 4 = .ok (.iload_n 1, 1) := by decide +kernel
theorem dL_make_5 : decode cL_make 5 = .ok (.iload_n 2, 1) := by decide +kernel
theorem dL_make_6 : decode cL_make 6 = .ok (.iload_n 3, 1) := by decide +kernel
theorem dL_make_7 : decode cL_make 7 = .ok (.invokevirtual 7, 3) := by decide +kernel
theorem dL_make_10 : decode cL_make 10 = .ok (.i2l, 1) := by decide +kernel
theorem dL_make_11 : decode cL_make 11 = .ok (.lastore, 1) := by decide +kernel
theorem dL_make_12 : decode cL_make 12 = .ok (.goto 7, 3) := by decide +kernel
theorem dL_make_15 : decode cL_make 15 = .ok (.astore 5, 2) := by decide +kernel
theorem dL_make_17 : decode cL_make 17 = .ok (.iconst 1, 1) := by decide +kernel
theorem dL_make_18 : decode cL_make 18 = .ok (.ireturn, 1) := by decide +kernel
theorem dL_make_19 : decode cL_make 19 = .ok (.iconst 0, 1) := by decide +kernel
theorem dL_make_20 : decode cL_make 20 = .ok (.ireturn, 1) := by decide +kernel
theorem dL_put_0 : decode cL_put 0 = .ok (.aload_n 3, 1) := by decide +kernel
theorem dL_put_1 : decode cL_put 1 = .ok (.iconst 0, 1) := by decide +kernel
theorem dL_put_2 : decode cL_put 2 = .ok (.aload_n 0, 1) := by decide +kernel
theorem dL_put_3 : decode cL_put 3 = .ok (.iload_n 1, 1) := by decide +kernel
theorem dL_put_4 : decode cL_put 4 = .ok (.iload_n 2, 1) := by decide +kernel
theorem dL_put_5 : decode cL_put 5 = .ok (.invokevirtual 15, 3) := by decide +kernel
theorem dL_put_8 : decode cL_put 8 = .ok (.lastore, 1) := by decide +kernel
theorem dL_put_9 : decode cL_put 9 = .ok (.goto 7, 3) := by decide +kernel
theorem dL_put_12 : decode cL_put 12 = .ok (.astore 4, 2) := by decide +kernel
theorem dL_put_14 : decode cL_put 14 = .ok (.iconst 1, 1) := by decide +kernel
theorem dL_put_15 : decode cL_put 15 = .ok (.ireturn, 1) := by decide +kernel
theorem dL_put_16 : decode cL_put 16 = .ok (.iconst 0, 1) := by decide +kernel
theorem dL_put_17 : decode cL_put 17 = .ok (.ireturn, 1) := by decide +kernel
theorem dL_find_0 : decode cL_find 0 = .ok (.aload_n 3, 1) := by decide +kernel
theorem dL_find_1 : decode cL_find 1 = .ok (.iconst 0, 1) := by decide +kernel
theorem dL_find_2 : decode cL_find 2 = .ok (.aload_n 0, 1) := by decide +kernel
theorem dL_find_3 : decode cL_find 3 = .ok (.iload_n 1, 1) := by decide +kernel
theorem dL_find_4 : decode cL_find 4 = .ok (.iload_n 2, 1) := by decide +kernel
theorem dL_find_5 : decode cL_find 5 = .ok (.invokevirtual 21, 3) := by decide +kernel
theorem dL_find_8 : decode cL_find 8 = .ok (.i2l, 1) := by decide +kernel
theorem dL_find_9 : decode cL_find 9 = .ok (.lastore, 1) := by decide +kernel
theorem dL_find_10 : decode cL_find 10 = .ok (.goto 7, 3) := by decide +kernel
theorem dL_find_13 : decode cL_find 13 = .ok (.astore 4, 2) := by decide +kernel
theorem dL_find_15 : decode cL_find 15 = .ok (.iconst 1, 1) := by decide +kernel
theorem dL_find_16 : decode cL_find 16 = .ok (.ireturn, 1) := by decide +kernel
theorem dL_find_17 : decode cL_find 17 = .ok (.iconst 0, 1) := by decide +kernel
theorem dL_find_18 : decode cL_find 18 = .ok (.ireturn, 1) := by decide +kernel
theorem dL_fill_0 : decode cL_fill 0 = .ok (.aload 4, 2) := by decide +kernel
theorem dL_fill_2 : decode cL_fill 2 = .ok (.iconst 0, 1) := by decide +kernel
theorem dL_fill_3 : decode cL_fill 3 = .ok (.aload_n 0, 1) := by decide +kernel
theorem dL_fill_4 : decode cL_fill 4 = .ok (.iload_n 1, 1) := by decide +kernel
theorem dL_fill_5 : decode cL_fill 5 = .ok (.iload_n 2, 1) := by decide +kernel
theorem dL_fill_6 : decode cL_fill 6 = .ok (.iload_n 3, 1) := by decide +kernel
theorem dL_fill_7 : decode cL_fill 7 = .ok (.invokevirtual 27, 3) := by decide +kernel
theorem dL_fill_10 : decode cL_fill 10 = .ok (.i2l, 1) := by decide +kernel
theorem dL_fill_11 : decode cL_fill 11 = .ok (.lastore, 1) := by decide +kernel
theorem dL_fill_12 : decode cL_fill 12 = .ok (.goto 7, 3) := by decide +kernel
theorem dL_fill_15 : decode cL_fill 15 = .ok (.astore 5, 2) := by decide +kernel
theorem dL_fill_17 : decode cL_fill 17 = .ok (.iconst 1, 1) := by decide +kernel
theorem dL_fill_18 : decode cL_fill 18 = .ok (.ireturn, 1) := by decide +kernel
theorem dL_fill_19 : decode cL_fill 19 = .ok (.iconst 0, 1) := by decide +kernel
theorem dL_fill_20 : decode cL_fill 20 = .ok (.ireturn, 1) := by decide +kernel
theorem dL_at_0 : decode cL_at 0 = .ok (.aload_n 2, 1) := by decide +kernel
theorem dL_at_1 : decode cL_at 1 = .ok (.iconst 0, 1) := by decide +kernel
theorem dL_at_2 : decode cL_at 2 = .ok (.aload_n 0, 1) := by decide +kernel
theorem dL_at_3 : decode cL_at 3 = .ok (.iload_n 1, 1) := by decide +kernel
theorem dL_at_4 : decode cL_at 4 = .ok (.invokevirtual 30, 3) := by decide +kernel
theorem dL_at_7 : decode cL_at 7 = .ok (.i2l, 1) := by decide +kernel
theorem dL_at_8 : decode cL_at 8 = .ok (.lastore, 1) := by decide +kernel
theorem dL_at_9 : decode cL_at 9 = .ok (.goto 6, 3) := by decide +kernel
theorem dL_at_12 : decode cL_at 12 = .ok (.astore_n 3, 1) := by decide +kernel
theorem dL_at_13 : decode cL_at 13 = .ok (.iconst 1, 1) := by decide +kernel
theorem dL_at_14 : decode cL_at 14 = .ok (.ireturn, 1) := by decide +kernel
theorem dL_at_15 : decode cL_at 15 = .ok (.iconst 0, 1) := by decide +kernel
theorem dL_at_16 : decode cL_at 16 = .ok (.ireturn, 1) := by decide +kernel
theorem dL_after_0 : decode cL_after 0 = .ok (.aload_n 2, 1) := by decide +kernel
theorem dL_after_1 : decode cL_after 1 = .ok (.iconst 0, 1) := by decide +kernel
theorem dL_after_2 : decode cL_after 2 = .ok (.aload_n 0, 1) := by decide +kernel
theorem dL_after_3 : decode cL_after 3 = .ok (.iload_n 1, 1) := by decide +kernel
theorem dL_after_4 : decode cL_after 4 = .ok (.invokevirtual 34, 3) := by decide +kernel
theorem dL_after_7 : decode cL_after 7 = .ok (.i2l, 1) := by decide +kernel
theorem dL_after_8 : decode cL_after 8 = .ok (.lastore, 1) := by decide +kernel
theorem dL_after_9 : decode cL_after 9 = .ok (.goto 6, 3) := by decide +kernel
theorem dL_after_12 : decode cL_after 12 = .ok (.astore_n 3, 1) := by decide +kernel
theorem dL_after_13 : decode cL_after 13 = .ok (.iconst 1, 1) := by decide +kernel
theorem dL_after_14 : decode cL_after 14 = .ok (.ireturn, 1) := by decide +kernel
theorem dL_after_15 : decode cL_after 15 = .ok (.iconst 0, 1) := by decide +kernel
theorem dL_after_16 : decode cL_after 16 = .ok (.ireturn, 1) := by decide +kernel
theorem dL_law_0 : decode code 0 = .ok (.new 8, 3) := by decide +kernel
theorem dL_law_3 : decode code 3 = .ok (.dup, 1) := by decide +kernel
theorem dL_law_4 : decode code 4 = .ok (.invokespecial 37, 3) := by decide +kernel
theorem dL_law_7 : decode code 7 = .ok (.astore_n 1, 1) := by decide +kernel
theorem dL_law_8 : decode code 8 = .ok (.new 38, 3) := by decide +kernel
theorem dL_law_11 : decode code 11 = .ok (.dup, 1) := by decide +kernel
theorem dL_law_12 : decode code 12 = .ok (.invokespecial 40, 3) := by decide +kernel
theorem dL_law_15 : decode code 15 = .ok (.astore_n 2, 1) := by decide +kernel
theorem dL_law_16 : decode code 16 = .ok (.iconst 1, 1) := by decide +kernel
theorem dL_law_17 : decode code 17 = .ok (.newarray .long, 2) := by decide +kernel
theorem dL_law_19 : decode code 19 = .ok (.astore_n 3, 1) := by decide +kernel
theorem dL_law_20 : decode code 20 = .ok (.iconst 0, 1) := by decide +kernel
theorem dL_law_21 : decode code 21 = .ok (.istore 4, 2) := by decide +kernel
theorem dL_law_23 : decode code 23 = .ok (.iload 4, 2) := by decide +kernel
theorem dL_law_25 : decode code 25 = .ok (.aload_n 0, 1) := by decide +kernel
theorem dL_law_26 : decode code 26 = .ok (.arraylength, 1) := by decide +kernel
theorem dL_law_27 : decode code 27 = .ok (.iconst 4, 1) := by decide +kernel
theorem dL_law_28 : decode code 28 = .ok (.isub, 1) := by decide +kernel
theorem dL_law_29 : decode code 29 = .ok (.if_icmp .gt 573, 3) := by decide +kernel
theorem dL_law_32 : decode code 32 = .ok (.aload_n 0, 1) := by decide +kernel
theorem dL_law_33 : decode code 33 = .ok (.iload 4, 2) := by decide +kernel
theorem dL_law_35 : decode code 35 = .ok (.iaload, 1) := by decide +kernel
theorem dL_law_36 : decode code 36 = .ok (.bipush 15, 2) := by decide +kernel
theorem dL_law_38 : decode code 38 = .ok (.iand, 1) := by decide +kernel
theorem dL_law_39 : decode code 39 = .ok (.tableswitch 557 0 10 #[57, 137, 204, 288, 313, 393, 449, 505, 518, 531, 544], 57) := by decide +kernel
theorem dL_law_96 : decode code 96 = .ok (.aload_n 1, 1) := by decide +kernel
theorem dL_law_97 : decode code 97 = .ok (.aload_n 0, 1) := by decide +kernel
theorem dL_law_98 : decode code 98 = .ok (.iload 4, 2) := by decide +kernel
theorem dL_law_100 : decode code 100 = .ok (.iconst 1, 1) := by decide +kernel
theorem dL_law_101 : decode code 101 = .ok (.iadd, 1) := by decide +kernel
theorem dL_law_102 : decode code 102 = .ok (.iaload, 1) := by decide +kernel
theorem dL_law_103 : decode code 103 = .ok (.aload_n 0, 1) := by decide +kernel
theorem dL_law_104 : decode code 104 = .ok (.iload 4, 2) := by decide +kernel
theorem dL_law_106 : decode code 106 = .ok (.iconst 2, 1) := by decide +kernel
theorem dL_law_107 : decode code 107 = .ok (.iadd, 1) := by decide +kernel
theorem dL_law_108 : decode code 108 = .ok (.iaload, 1) := by decide +kernel
theorem dL_law_109 : decode code 109 = .ok (.aload_n 0, 1) := by decide +kernel
theorem dL_law_110 : decode code 110 = .ok (.iload 4, 2) := by decide +kernel
theorem dL_law_112 : decode code 112 = .ok (.iconst 3, 1) := by decide +kernel
theorem dL_law_113 : decode code 113 = .ok (.iadd, 1) := by decide +kernel
theorem dL_law_114 : decode code 114 = .ok (.iaload, 1) := by decide +kernel
theorem dL_law_115 : decode code 115 = .ok (.aload_n 3, 1) := by decide +kernel
theorem dL_law_116 : decode code 116 = .ok (.invokestatic 41, 3) := by decide +kernel
theorem dL_law_119 : decode code 119 = .ok (.istore 5, 2) := by decide +kernel
theorem dL_law_121 : decode code 121 = .ok (.aload_n 2, 1) := by decide +kernel
theorem dL_law_122 : decode code 122 = .ok (.aload_n 0, 1) := by decide +kernel
theorem dL_law_123 : decode code 123 = .ok (.iload 4, 2) := by decide +kernel
theorem dL_law_125 : decode code 125 = .ok (.iconst 1, 1) := by decide +kernel
theorem dL_law_126 : decode code 126 = .ok (.iadd, 1) := by decide +kernel
theorem dL_law_127 : decode code 127 = .ok (.iaload, 1) := by decide +kernel
theorem dL_law_128 : decode code 128 = .ok (.aload_n 0, 1) := by decide +kernel
theorem dL_law_129 : decode code 129 = .ok (.iload 4, 2) := by decide +kernel
theorem dL_law_131 : decode code 131 = .ok (.iconst 2, 1) := by decide +kernel
theorem dL_law_132 : decode code 132 = .ok (.iadd, 1) := by decide +kernel
theorem dL_law_133 : decode code 133 = .ok (.iaload, 1) := by decide +kernel
theorem dL_law_134 : decode code 134 = .ok (.aload_n 0, 1) := by decide +kernel
theorem dL_law_135 : decode code 135 = .ok (.iload 4, 2) := by decide +kernel
theorem dL_law_137 : decode code 137 = .ok (.iconst 3, 1) := by decide +kernel
theorem dL_law_138 : decode code 138 = .ok (.iadd, 1) := by decide +kernel
theorem dL_law_139 : decode code 139 = .ok (.iaload, 1) := by decide +kernel
theorem dL_law_140 : decode code 140 = .ok (.invokevirtual 46, 3) := by decide +kernel
theorem dL_law_143 : decode code 143 = .ok (.istore 6, 2) := by decide +kernel
theorem dL_law_145 : decode code 145 = .ok (.aload_n 2, 1) := by decide +kernel
theorem dL_law_146 : decode code 146 = .ok (.invokevirtual 47, 3) := by decide +kernel
theorem dL_law_149 : decode code 149 = .ok (.iload 5, 2) := by decide +kernel
theorem dL_law_151 : decode code 151 = .ok (.if_icmp .eq 5, 3) := by decide +kernel
theorem dL_law_154 : decode code 154 = .ok (.iconst 0, 1) := by decide +kernel
theorem dL_law_155 : decode code 155 = .ok (.ireturn, 1) := by decide +kernel
theorem dL_law_156 : decode code 156 = .ok (.iload 5, 2) := by decide +kernel
theorem dL_law_158 : decode code 158 = .ok (.ifCond .ne 15, 3) := by decide +kernel
theorem dL_law_161 : decode code 161 = .ok (.aload_n 3, 1) := by decide +kernel
theorem dL_law_162 : decode code 162 = .ok (.iconst 0, 1) := by decide +kernel
theorem dL_law_163 : decode code 163 = .ok (.laload, 1) := by decide +kernel
theorem dL_law_164 : decode code 164 = .ok (.iload 6, 2) := by decide +kernel
theorem dL_law_166 : decode code 166 = .ok (.i2l, 1) := by decide +kernel
theorem dL_law_167 : decode code 167 = .ok (.lcmp, 1) := by decide +kernel
theorem dL_law_168 : decode code 168 = .ok (.ifCond .eq 5, 3) := by decide +kernel
theorem dL_law_171 : decode code 171 = .ok (.iconst 0, 1) := by decide +kernel
theorem dL_law_172 : decode code 172 = .ok (.ireturn, 1) := by decide +kernel
theorem dL_law_173 : decode code 173 = .ok (.goto 423, 3) := by decide +kernel
theorem dL_law_176 : decode code 176 = .ok (.aload_n 1, 1) := by decide +kernel
theorem dL_law_177 : decode code 177 = .ok (.aload_n 0, 1) := by decide +kernel
theorem dL_law_178 : decode code 178 = .ok (.iload 4, 2) := by decide +kernel
theorem dL_law_180 : decode code 180 = .ok (.iconst 1, 1) := by decide +kernel
theorem dL_law_181 : decode code 181 = .ok (.iadd, 1) := by decide +kernel
theorem dL_law_182 : decode code 182 = .ok (.iaload, 1) := by decide +kernel
theorem dL_law_183 : decode code 183 = .ok (.aload_n 0, 1) := by decide +kernel
theorem dL_law_184 : decode code 184 = .ok (.iload 4, 2) := by decide +kernel
theorem dL_law_186 : decode code 186 = .ok (.iconst 2, 1) := by decide +kernel
theorem dL_law_187 : decode code 187 = .ok (.iadd, 1) := by decide +kernel
theorem dL_law_188 : decode code 188 = .ok (.iaload, 1) := by decide +kernel
theorem dL_law_189 : decode code 189 = .ok (.aload_n 3, 1) := by decide +kernel
theorem dL_law_190 : decode code 190 = .ok (.invokestatic 51, 3) := by decide +kernel
theorem dL_law_193 : decode code 193 = .ok (.istore 5, 2) := by decide +kernel
theorem dL_law_195 : decode code 195 = .ok (.aload_n 2, 1) := by decide +kernel
theorem dL_law_196 : decode code 196 = .ok (.aload_n 0, 1) := by decide +kernel
theorem dL_law_197 : decode code 197 = .ok (.iload 4, 2) := by decide +kernel
theorem dL_law_199 : decode code 199 = .ok (.iconst 1, 1) := by decide +kernel
theorem dL_law_200 : decode code 200 = .ok (.iadd, 1) := by decide +kernel
theorem dL_law_201 : decode code 201 = .ok (.iaload, 1) := by decide +kernel
theorem dL_law_202 : decode code 202 = .ok (.aload_n 0, 1) := by decide +kernel
theorem dL_law_203 : decode code 203 = .ok (.iload 4, 2) := by decide +kernel
theorem dL_law_205 : decode code 205 = .ok (.iconst 2, 1) := by decide +kernel
theorem dL_law_206 : decode code 206 = .ok (.iadd, 1) := by decide +kernel
theorem dL_law_207 : decode code 207 = .ok (.iaload, 1) := by decide +kernel
theorem dL_law_208 : decode code 208 = .ok (.invokevirtual 54, 3) := by decide +kernel
theorem dL_law_211 : decode code 211 = .ok (.lstore 6, 2) := by decide +kernel
theorem dL_law_213 : decode code 213 = .ok (.aload_n 2, 1) := by decide +kernel
theorem dL_law_214 : decode code 214 = .ok (.invokevirtual 47, 3) := by decide +kernel
theorem dL_law_217 : decode code 217 = .ok (.iload 5, 2) := by decide +kernel
theorem dL_law_219 : decode code 219 = .ok (.if_icmp .eq 5, 3) := by decide +kernel
theorem dL_law_222 : decode code 222 = .ok (.iconst 0, 1) := by decide +kernel
theorem dL_law_223 : decode code 223 = .ok (.ireturn, 1) := by decide +kernel
theorem dL_law_224 : decode code 224 = .ok (.iload 5, 2) := by decide +kernel
theorem dL_law_226 : decode code 226 = .ok (.ifCond .ne 14, 3) := by decide +kernel
theorem dL_law_229 : decode code 229 = .ok (.aload_n 3, 1) := by decide +kernel
theorem dL_law_230 : decode code 230 = .ok (.iconst 0, 1) := by decide +kernel
theorem dL_law_231 : decode code 231 = .ok (.laload, 1) := by decide +kernel
theorem dL_law_232 : decode code 232 = .ok (.lload 6, 2) := by decide +kernel
theorem dL_law_234 : decode code 234 = .ok (.lcmp, 1) := by decide +kernel
theorem dL_law_235 : decode code 235 = .ok (.ifCond .eq 5, 3) := by decide +kernel
theorem dL_law_238 : decode code 238 = .ok (.iconst 0, 1) := by decide +kernel
theorem dL_law_239 : decode code 239 = .ok (.ireturn, 1) := by decide +kernel
theorem dL_law_240 : decode code 240 = .ok (.goto 356, 3) := by decide +kernel
theorem dL_law_243 : decode code 243 = .ok (.aload_n 1, 1) := by decide +kernel
theorem dL_law_244 : decode code 244 = .ok (.aload_n 0, 1) := by decide +kernel
theorem dL_law_245 : decode code 245 = .ok (.iload 4, 2) := by decide +kernel
theorem dL_law_247 : decode code 247 = .ok (.iconst 1, 1) := by decide +kernel
theorem dL_law_248 : decode code 248 = .ok (.iadd, 1) := by decide +kernel
theorem dL_law_249 : decode code 249 = .ok (.iaload, 1) := by decide +kernel
theorem dL_law_250 : decode code 250 = .ok (.aload_n 0, 1) := by decide +kernel
theorem dL_law_251 : decode code 251 = .ok (.iload 4, 2) := by decide +kernel
theorem dL_law_253 : decode code 253 = .ok (.iconst 2, 1) := by decide +kernel
theorem dL_law_254 : decode code 254 = .ok (.iadd, 1) := by decide +kernel
theorem dL_law_255 : decode code 255 = .ok (.iaload, 1) := by decide +kernel
theorem dL_law_256 : decode code 256 = .ok (.ifCond .eq 7, 3) := by decide +kernel
theorem dL_law_259 : decode code 259 = .ok (.iconst 1, 1) := by decide +kernel
theorem dL_law_260 : decode code 260 = .ok (.goto 4, 3) := by decide +kernel
theorem dL_law_263 : decode code 263 = .ok (.iconst 0, 1) := by decide +kernel
theorem dL_law_264 : decode code 264 = .ok (.aload_n 3, 1) := by decide +kernel
theorem dL_law_265 : decode code 265 = .ok (.invokestatic 55, 3) := by decide +kernel
theorem dL_law_268 : decode code 268 = .ok (.istore 5, 2) := by decide +kernel
theorem dL_law_270 : decode code 270 = .ok (.aload_n 2, 1) := by decide +kernel
theorem dL_law_271 : decode code 271 = .ok (.aload_n 0, 1) := by decide +kernel
theorem dL_law_272 : decode code 272 = .ok (.iload 4, 2) := by decide +kernel
theorem dL_law_274 : decode code 274 = .ok (.iconst 1, 1) := by decide +kernel
theorem dL_law_275 : decode code 275 = .ok (.iadd, 1) := by decide +kernel
theorem dL_law_276 : decode code 276 = .ok (.iaload, 1) := by decide +kernel
theorem dL_law_277 : decode code 277 = .ok (.aload_n 0, 1) := by decide +kernel
theorem dL_law_278 : decode code 278 = .ok (.iload 4, 2) := by decide +kernel
theorem dL_law_280 : decode code 280 = .ok (.iconst 2, 1) := by decide +kernel
theorem dL_law_281 : decode code 281 = .ok (.iadd, 1) := by decide +kernel
theorem dL_law_282 : decode code 282 = .ok (.iaload, 1) := by decide +kernel
theorem dL_law_283 : decode code 283 = .ok (.ifCond .eq 7, 3) := by decide +kernel
theorem dL_law_286 : decode code 286 = .ok (.iconst 1, 1) := by decide +kernel
theorem dL_law_287 : decode code 287 = .ok (.goto 4, 3) := by decide +kernel
theorem dL_law_290 : decode code 290 = .ok (.iconst 0, 1) := by decide +kernel
theorem dL_law_291 : decode code 291 = .ok (.invokevirtual 58, 3) := by decide +kernel
theorem dL_law_294 : decode code 294 = .ok (.istore 6, 2) := by decide +kernel
theorem dL_law_296 : decode code 296 = .ok (.aload_n 2, 1) := by decide +kernel
theorem dL_law_297 : decode code 297 = .ok (.invokevirtual 47, 3) := by decide +kernel
theorem dL_law_300 : decode code 300 = .ok (.iload 5, 2) := by decide +kernel
theorem dL_law_302 : decode code 302 = .ok (.if_icmp .eq 5, 3) := by decide +kernel
theorem dL_law_305 : decode code 305 = .ok (.iconst 0, 1) := by decide +kernel
theorem dL_law_306 : decode code 306 = .ok (.ireturn, 1) := by decide +kernel
theorem dL_law_307 : decode code 307 = .ok (.iload 5, 2) := by decide +kernel
theorem dL_law_309 : decode code 309 = .ok (.ifCond .ne 15, 3) := by decide +kernel
theorem dL_law_312 : decode code 312 = .ok (.aload_n 3, 1) := by decide +kernel
theorem dL_law_313 : decode code 313 = .ok (.iconst 0, 1) := by decide +kernel
theorem dL_law_314 : decode code 314 = .ok (.laload, 1) := by decide +kernel
theorem dL_law_315 : decode code 315 = .ok (.iload 6, 2) := by decide +kernel
theorem dL_law_317 : decode code 317 = .ok (.i2l, 1) := by decide +kernel
theorem dL_law_318 : decode code 318 = .ok (.lcmp, 1) := by decide +kernel
theorem dL_law_319 : decode code 319 = .ok (.ifCond .eq 5, 3) := by decide +kernel
theorem dL_law_322 : decode code 322 = .ok (.iconst 0, 1) := by decide +kernel
theorem dL_law_323 : decode code 323 = .ok (.ireturn, 1) := by decide +kernel
theorem dL_law_324 : decode code 324 = .ok (.goto 272, 3) := by decide +kernel
theorem dL_law_327 : decode code 327 = .ok (.aload_n 1, 1) := by decide +kernel
theorem dL_law_328 : decode code 328 = .ok (.aload_n 0, 1) := by decide +kernel
theorem dL_law_329 : decode code 329 = .ok (.iload 4, 2) := by decide +kernel
theorem dL_law_331 : decode code 331 = .ok (.iconst 1, 1) := by decide +kernel
theorem dL_law_332 : decode code 332 = .ok (.iadd, 1) := by decide +kernel
theorem dL_law_333 : decode code 333 = .ok (.iaload, 1) := by decide +kernel
theorem dL_law_334 : decode code 334 = .ok (.invokevirtual 59, 3) := by decide +kernel
theorem dL_law_337 : decode code 337 = .ok (.aload_n 2, 1) := by decide +kernel
theorem dL_law_338 : decode code 338 = .ok (.aload_n 0, 1) := by decide +kernel
theorem dL_law_339 : decode code 339 = .ok (.iload 4, 2) := by decide +kernel
theorem dL_law_341 : decode code 341 = .ok (.iconst 1, 1) := by decide +kernel
theorem dL_law_342 : decode code 342 = .ok (.iadd, 1) := by decide +kernel
theorem dL_law_343 : decode code 343 = .ok (.iaload, 1) := by decide +kernel
theorem dL_law_344 : decode code 344 = .ok (.invokevirtual 63, 3) := by decide +kernel
theorem dL_law_347 : decode code 347 = .ok (.if_icmp .eq 249, 3) := by decide +kernel
theorem dL_law_350 : decode code 350 = .ok (.iconst 0, 1) := by decide +kernel
theorem dL_law_351 : decode code 351 = .ok (.ireturn, 1) := by decide +kernel
theorem dL_law_352 : decode code 352 = .ok (.aload_n 1, 1) := by decide +kernel
theorem dL_law_353 : decode code 353 = .ok (.aload_n 0, 1) := by decide +kernel
theorem dL_law_354 : decode code 354 = .ok (.iload 4, 2) := by decide +kernel
theorem dL_law_356 : decode code 356 = .ok (.iconst 1, 1) := by decide +kernel
theorem dL_law_357 : decode code 357 = .ok (.iadd, 1) := by decide +kernel
theorem dL_law_358 : decode code 358 = .ok (.iaload, 1) := by decide +kernel
theorem dL_law_359 : decode code 359 = .ok (.aload_n 0, 1) := by decide +kernel
theorem dL_law_360 : decode code 360 = .ok (.iload 4, 2) := by decide +kernel
theorem dL_law_362 : decode code 362 = .ok (.iconst 2, 1) := by decide +kernel
theorem dL_law_363 : decode code 363 = .ok (.iadd, 1) := by decide +kernel
theorem dL_law_364 : decode code 364 = .ok (.iaload, 1) := by decide +kernel
theorem dL_law_365 : decode code 365 = .ok (.aload_n 0, 1) := by decide +kernel
theorem dL_law_366 : decode code 366 = .ok (.iload 4, 2) := by decide +kernel
theorem dL_law_368 : decode code 368 = .ok (.iconst 3, 1) := by decide +kernel
theorem dL_law_369 : decode code 369 = .ok (.iadd, 1) := by decide +kernel
theorem dL_law_370 : decode code 370 = .ok (.iaload, 1) := by decide +kernel
theorem dL_law_371 : decode code 371 = .ok (.aload_n 3, 1) := by decide +kernel
theorem dL_law_372 : decode code 372 = .ok (.invokestatic 64, 3) := by decide +kernel
theorem dL_law_375 : decode code 375 = .ok (.istore 5, 2) := by decide +kernel
theorem dL_law_377 : decode code 377 = .ok (.aload_n 2, 1) := by decide +kernel
theorem dL_law_378 : decode code 378 = .ok (.aload_n 0, 1) := by decide +kernel
theorem dL_law_379 : decode code 379 = .ok (.iload 4, 2) := by decide +kernel
theorem dL_law_381 : decode code 381 = .ok (.iconst 1, 1) := by decide +kernel
theorem dL_law_382 : decode code 382 = .ok (.iadd, 1) := by decide +kernel
theorem dL_law_383 : decode code 383 = .ok (.iaload, 1) := by decide +kernel
theorem dL_law_384 : decode code 384 = .ok (.aload_n 0, 1) := by decide +kernel
theorem dL_law_385 : decode code 385 = .ok (.iload 4, 2) := by decide +kernel
theorem dL_law_387 : decode code 387 = .ok (.iconst 2, 1) := by decide +kernel
theorem dL_law_388 : decode code 388 = .ok (.iadd, 1) := by decide +kernel
theorem dL_law_389 : decode code 389 = .ok (.iaload, 1) := by decide +kernel
theorem dL_law_390 : decode code 390 = .ok (.aload_n 0, 1) := by decide +kernel
theorem dL_law_391 : decode code 391 = .ok (.iload 4, 2) := by decide +kernel
theorem dL_law_393 : decode code 393 = .ok (.iconst 3, 1) := by decide +kernel
theorem dL_law_394 : decode code 394 = .ok (.iadd, 1) := by decide +kernel
theorem dL_law_395 : decode code 395 = .ok (.iaload, 1) := by decide +kernel
theorem dL_law_396 : decode code 396 = .ok (.invokevirtual 66, 3) := by decide +kernel
theorem dL_law_399 : decode code 399 = .ok (.istore 6, 2) := by decide +kernel
theorem dL_law_401 : decode code 401 = .ok (.aload_n 2, 1) := by decide +kernel
theorem dL_law_402 : decode code 402 = .ok (.invokevirtual 47, 3) := by decide +kernel
theorem dL_law_405 : decode code 405 = .ok (.iload 5, 2) := by decide +kernel
theorem dL_law_407 : decode code 407 = .ok (.if_icmp .eq 5, 3) := by decide +kernel
theorem dL_law_410 : decode code 410 = .ok (.iconst 0, 1) := by decide +kernel
theorem dL_law_411 : decode code 411 = .ok (.ireturn, 1) := by decide +kernel
theorem dL_law_412 : decode code 412 = .ok (.iload 5, 2) := by decide +kernel
theorem dL_law_414 : decode code 414 = .ok (.ifCond .ne 15, 3) := by decide +kernel
theorem dL_law_417 : decode code 417 = .ok (.aload_n 3, 1) := by decide +kernel
theorem dL_law_418 : decode code 418 = .ok (.iconst 0, 1) := by decide +kernel
theorem dL_law_419 : decode code 419 = .ok (.laload, 1) := by decide +kernel
theorem dL_law_420 : decode code 420 = .ok (.iload 6, 2) := by decide +kernel
theorem dL_law_422 : decode code 422 = .ok (.i2l, 1) := by decide +kernel
theorem dL_law_423 : decode code 423 = .ok (.lcmp, 1) := by decide +kernel
theorem dL_law_424 : decode code 424 = .ok (.ifCond .eq 5, 3) := by decide +kernel
theorem dL_law_427 : decode code 427 = .ok (.iconst 0, 1) := by decide +kernel
theorem dL_law_428 : decode code 428 = .ok (.ireturn, 1) := by decide +kernel
theorem dL_law_429 : decode code 429 = .ok (.goto 167, 3) := by decide +kernel
theorem dL_law_432 : decode code 432 = .ok (.aload_n 1, 1) := by decide +kernel
theorem dL_law_433 : decode code 433 = .ok (.aload_n 0, 1) := by decide +kernel
theorem dL_law_434 : decode code 434 = .ok (.iload 4, 2) := by decide +kernel
theorem dL_law_436 : decode code 436 = .ok (.iconst 1, 1) := by decide +kernel
theorem dL_law_437 : decode code 437 = .ok (.iadd, 1) := by decide +kernel
theorem dL_law_438 : decode code 438 = .ok (.iaload, 1) := by decide +kernel
theorem dL_law_439 : decode code 439 = .ok (.aload_n 3, 1) := by decide +kernel
theorem dL_law_440 : decode code 440 = .ok (.invokestatic 67, 3) := by decide +kernel
theorem dL_law_443 : decode code 443 = .ok (.istore 5, 2) := by decide +kernel
theorem dL_law_445 : decode code 445 = .ok (.aload_n 2, 1) := by decide +kernel
theorem dL_law_446 : decode code 446 = .ok (.aload_n 0, 1) := by decide +kernel
theorem dL_law_447 : decode code 447 = .ok (.iload 4, 2) := by decide +kernel
theorem dL_law_449 : decode code 449 = .ok (.iconst 1, 1) := by decide +kernel
theorem dL_law_450 : decode code 450 = .ok (.iadd, 1) := by decide +kernel
theorem dL_law_451 : decode code 451 = .ok (.iaload, 1) := by decide +kernel
theorem dL_law_452 : decode code 452 = .ok (.invokevirtual 70, 3) := by decide +kernel
theorem dL_law_455 : decode code 455 = .ok (.istore 6, 2) := by decide +kernel
theorem dL_law_457 : decode code 457 = .ok (.aload_n 2, 1) := by decide +kernel
theorem dL_law_458 : decode code 458 = .ok (.invokevirtual 47, 3) := by decide +kernel
theorem dL_law_461 : decode code 461 = .ok (.iload 5, 2) := by decide +kernel
theorem dL_law_463 : decode code 463 = .ok (.if_icmp .eq 5, 3) := by decide +kernel
theorem dL_law_466 : decode code 466 = .ok (.iconst 0, 1) := by decide +kernel
theorem dL_law_467 : decode code 467 = .ok (.ireturn, 1) := by decide +kernel
theorem dL_law_468 : decode code 468 = .ok (.iload 5, 2) := by decide +kernel
theorem dL_law_470 : decode code 470 = .ok (.ifCond .ne 15, 3) := by decide +kernel
theorem dL_law_473 : decode code 473 = .ok (.aload_n 3, 1) := by decide +kernel
theorem dL_law_474 : decode code 474 = .ok (.iconst 0, 1) := by decide +kernel
theorem dL_law_475 : decode code 475 = .ok (.laload, 1) := by decide +kernel
theorem dL_law_476 : decode code 476 = .ok (.iload 6, 2) := by decide +kernel
theorem dL_law_478 : decode code 478 = .ok (.i2l, 1) := by decide +kernel
theorem dL_law_479 : decode code 479 = .ok (.lcmp, 1) := by decide +kernel
theorem dL_law_480 : decode code 480 = .ok (.ifCond .eq 5, 3) := by decide +kernel
theorem dL_law_483 : decode code 483 = .ok (.iconst 0, 1) := by decide +kernel
theorem dL_law_484 : decode code 484 = .ok (.ireturn, 1) := by decide +kernel
theorem dL_law_485 : decode code 485 = .ok (.goto 111, 3) := by decide +kernel
theorem dL_law_488 : decode code 488 = .ok (.aload_n 1, 1) := by decide +kernel
theorem dL_law_489 : decode code 489 = .ok (.aload_n 0, 1) := by decide +kernel
theorem dL_law_490 : decode code 490 = .ok (.iload 4, 2) := by decide +kernel
theorem dL_law_492 : decode code 492 = .ok (.iconst 1, 1) := by decide +kernel
theorem dL_law_493 : decode code 493 = .ok (.iadd, 1) := by decide +kernel
theorem dL_law_494 : decode code 494 = .ok (.iaload, 1) := by decide +kernel
theorem dL_law_495 : decode code 495 = .ok (.aload_n 3, 1) := by decide +kernel
theorem dL_law_496 : decode code 496 = .ok (.invokestatic 71, 3) := by decide +kernel
theorem dL_law_499 : decode code 499 = .ok (.istore 5, 2) := by decide +kernel
theorem dL_law_501 : decode code 501 = .ok (.aload_n 2, 1) := by decide +kernel
theorem dL_law_502 : decode code 502 = .ok (.aload_n 0, 1) := by decide +kernel
theorem dL_law_503 : decode code 503 = .ok (.iload 4, 2) := by decide +kernel
theorem dL_law_505 : decode code 505 = .ok (.iconst 1, 1) := by decide +kernel
theorem dL_law_506 : decode code 506 = .ok (.iadd, 1) := by decide +kernel
theorem dL_law_507 : decode code 507 = .ok (.iaload, 1) := by decide +kernel
theorem dL_law_508 : decode code 508 = .ok (.invokevirtual 73, 3) := by decide +kernel
theorem dL_law_511 : decode code 511 = .ok (.istore 6, 2) := by decide +kernel
theorem dL_law_513 : decode code 513 = .ok (.aload_n 2, 1) := by decide +kernel
theorem dL_law_514 : decode code 514 = .ok (.invokevirtual 47, 3) := by decide +kernel
theorem dL_law_517 : decode code 517 = .ok (.iload 5, 2) := by decide +kernel
theorem dL_law_519 : decode code 519 = .ok (.if_icmp .eq 5, 3) := by decide +kernel
theorem dL_law_522 : decode code 522 = .ok (.iconst 0, 1) := by decide +kernel
theorem dL_law_523 : decode code 523 = .ok (.ireturn, 1) := by decide +kernel
theorem dL_law_524 : decode code 524 = .ok (.iload 5, 2) := by decide +kernel
theorem dL_law_526 : decode code 526 = .ok (.ifCond .ne 15, 3) := by decide +kernel
theorem dL_law_529 : decode code 529 = .ok (.aload_n 3, 1) := by decide +kernel
theorem dL_law_530 : decode code 530 = .ok (.iconst 0, 1) := by decide +kernel
theorem dL_law_531 : decode code 531 = .ok (.laload, 1) := by decide +kernel
theorem dL_law_532 : decode code 532 = .ok (.iload 6, 2) := by decide +kernel
theorem dL_law_534 : decode code 534 = .ok (.i2l, 1) := by decide +kernel
theorem dL_law_535 : decode code 535 = .ok (.lcmp, 1) := by decide +kernel
theorem dL_law_536 : decode code 536 = .ok (.ifCond .eq 5, 3) := by decide +kernel
theorem dL_law_539 : decode code 539 = .ok (.iconst 0, 1) := by decide +kernel
theorem dL_law_540 : decode code 540 = .ok (.ireturn, 1) := by decide +kernel
theorem dL_law_541 : decode code 541 = .ok (.goto 55, 3) := by decide +kernel
theorem dL_law_544 : decode code 544 = .ok (.aload_n 1, 1) := by decide +kernel
theorem dL_law_545 : decode code 545 = .ok (.invokevirtual 74, 3) := by decide +kernel
theorem dL_law_548 : decode code 548 = .ok (.aload_n 2, 1) := by decide +kernel
theorem dL_law_549 : decode code 549 = .ok (.invokevirtual 77, 3) := by decide +kernel
theorem dL_law_552 : decode code 552 = .ok (.if_icmp .eq 44, 3) := by decide +kernel
theorem dL_law_555 : decode code 555 = .ok (.iconst 0, 1) := by decide +kernel
theorem dL_law_556 : decode code 556 = .ok (.ireturn, 1) := by decide +kernel
theorem dL_law_557 : decode code 557 = .ok (.aload_n 1, 1) := by decide +kernel
theorem dL_law_558 : decode code 558 = .ok (.invokevirtual 78, 3) := by decide +kernel
theorem dL_law_561 : decode code 561 = .ok (.aload_n 2, 1) := by decide +kernel
theorem dL_law_562 : decode code 562 = .ok (.invokevirtual 81, 3) := by decide +kernel
theorem dL_law_565 : decode code 565 = .ok (.if_icmp .eq 31, 3) := by decide +kernel
theorem dL_law_568 : decode code 568 = .ok (.iconst 0, 1) := by decide +kernel
theorem dL_law_569 : decode code 569 = .ok (.ireturn, 1) := by decide +kernel
theorem dL_law_570 : decode code 570 = .ok (.aload_n 1, 1) := by decide +kernel
theorem dL_law_571 : decode code 571 = .ok (.invokevirtual 82, 3) := by decide +kernel
theorem dL_law_574 : decode code 574 = .ok (.aload_n 2, 1) := by decide +kernel
theorem dL_law_575 : decode code 575 = .ok (.invokevirtual 85, 3) := by decide +kernel
theorem dL_law_578 : decode code 578 = .ok (.if_icmp .eq 18, 3) := by decide +kernel
theorem dL_law_581 : decode code 581 = .ok (.iconst 0, 1) := by decide +kernel
theorem dL_law_582 : decode code 582 = .ok (.ireturn, 1) := by decide +kernel
theorem dL_law_583 : decode code 583 = .ok (.aload_n 1, 1) := by decide +kernel
theorem dL_law_584 : decode code 584 = .ok (.invokevirtual 86, 3) := by decide +kernel
theorem dL_law_587 : decode code 587 = .ok (.aload_n 2, 1) := by decide +kernel
theorem dL_law_588 : decode code 588 = .ok (.invokevirtual 89, 3) := by decide +kernel
theorem dL_law_591 : decode code 591 = .ok (.if_icmp .eq 5, 3) := by decide +kernel
theorem dL_law_594 : decode code 594 = .ok (.iconst 0, 1) := by decide +kernel
theorem dL_law_595 : decode code 595 = .ok (.ireturn, 1) := by decide +kernel
theorem dL_law_596 : decode code 596 = .ok (.iinc 4 4, 3) := by decide +kernel
theorem dL_law_599 : decode code 599 = .ok (.goto (-576), 3) := by decide +kernel
theorem dL_law_602 : decode code 602 = .ok (.iconst 1, 1) := by decide +kernel
theorem dL_law_603 : decode code 603 = .ok (.ireturn, 1) := by decide +kernel
end
section
set_option maxRecDepth 100000 in
theorem kw_L_make : xwV RL 7 yX3_make cX3_make 5 (some .int) 3 := ⟨⟨xt_of (List.mem_of_getElem? (i := 309) rfl) rfl, xt_of (by decide +kernel) rfl, xt_of (by decide +kernel) rfl, by decide +kernel⟩, xt_of (by decide +kernel) rfl, xt_of (by decide +kernel) rfl⟩
set_option maxRecDepth 100000 in
theorem hcl_make : Cond.classLink RL 13 "java/lang/IllegalArgumentException" ∈ xt_tbl := xt_of (by decide +kernel) rfl
abbrev R_H_make : Room := { frames := 4, cells := 0, slots := 0, locals := 88 }
set_option maxHeartbeats 4000000 in
set_option maxRecDepth 100000 in
theorem chR_make (ad : Nat → Nat) (cA cL : ClassId) (o : Nat) (s : zT) (g : Nat → Int64) (mode : Int32) (f : Int32) (most : Int32) (h1 : mBM_isMode mode most = true) (h2 : ¬ f < 0) (h3 : f ≤ 2) : xctW cA cL yL_make cL_make 6 (some .int) [(0, 12, 15, 13)] R_H_make [.ref (ad 0), .int mode, .int f, .int most, .ref o] (wo ad cA cL o s g) (some (.int 0)) (wo ad cA cL o (mBM_make s mode f most) (vp_updL g 0 ((s.2 4 2).toInt64))) := by
  refine xctW_of (own := RL) (by decide) rfl (Nat.le_of_ble_eq_true rfl) (fun X hX hHX hty => ?_)
  show xs X cA RL cL_make 6 (some .int) R_H_make (wd ad cA s ++ [(o, .inl (cL, 1, .inr (.inl g)))]) 0 0 0 [(0, .ref (ad 0)), (1, .int mode), (2, .int f), (3, .int most), (4, .ref o)] []
  refine xs_aload 4 dL_make_0 rfl ?_
  refine xs_iconst (v := 0) dL_make_2 (by decide) ?_
  refine xs_aload_n 0 dL_make_3 rfl ?_
  refine xs_iload_n 1 dL_make_4 rfl ?_
  refine xs_iload_n 2 dL_make_5 rfl ?_
  refine xs_iload_n 3 dL_make_6 rfl ?_
  refine xs_callF 0 (c_BM_make ad cA s mode f most h1 h2 h3) rfl rfl dL_make_7 kw_L_make (by decide) rfl rfl rfl (Nat.le_of_ble_eq_true rfl) ⟨Nat.zero_le _, Nat.zero_le _⟩ ?_
  refine xs_i2l dL_make_10 ?_
  refine xs_last (N := 1) (f := g) 17 hty dL_make_11 rfl xin01 rfl ?_
  refine xs_goto (t := 19) dL_make_12 (by decide) ?_
  refine xs_iconst (v := 0) dL_make_19 (by decide) ?_
  exact xs_iret hX rfl dL_make_20 rfl rfl
abbrev RT_H_make : Room := { frames := 7, cells := 1, slots := 6, locals := 105 }
set_option maxHeartbeats 4000000 in
set_option maxRecDepth 100000 in
theorem chT_make (ad : Nat → Nat) (cA cL : ClassId) (o : Nat) (s : zT) (g : Nat → Int64) (mode : Int32) (f : Int32) (most : Int32) (h : mBM_isMode mode most = false ∨ f < 0 ∨ ¬ f ≤ 2) : xctW cA cL yL_make cL_make 6 (some .int) [(0, 12, 15, 13)] RT_H_make [.ref (ad 0), .int mode, .int f, .int most, .ref o] (wo ad cA cL o s g) (some (.int 1)) (wo ad cA cL o s g) := by
  refine xctW_of (own := RL) (by decide) rfl (Nat.le_of_ble_eq_true rfl) (fun X hX hHX hty => ?_)
  show xs X cA RL cL_make 6 (some .int) RT_H_make (wd ad cA s ++ [(o, .inl (cL, 1, .inr (.inl g)))]) 0 0 0 [(0, .ref (ad 0)), (1, .int mode), (2, .int f), (3, .int most), (4, .ref o)] []
  refine xs_aload 4 dL_make_0 rfl ?_
  refine xs_iconst (v := 0) dL_make_2 (by decide) ?_
  refine xs_aload_n 0 dL_make_3 rfl ?_
  refine xs_iload_n 1 dL_make_4 rfl ?_
  refine xs_iload_n 2 dL_make_5 rfl ?_
  refine xs_iload_n 3 dL_make_6 rfl ?_
  refine xs_callT 0 (cT_BM_make ad cA s mode f most h) hHX dL_make_7 kw_L_make (by decide) rfl rfl rfl (Nat.le_of_ble_eq_true rfl) (by decide) (by decide) (by decide) hcl_make (by decide +kernel) (fun a => ?_)
  refine xs_astore (L' := [(5, _), (0, _), (1, _), (2, _), (3, _), (4, _)]) dL_make_15 (by decide) rfl ?_
  refine xs_iconst (v := 1) dL_make_17 (by decide) ?_
  exact xs_iret hX rfl dL_make_18 rfl rfl
set_option maxRecDepth 100000 in
theorem kw_L_put : xwV RL 15 yX3_put cX3_put 5 (some .long) 2 := ⟨⟨xt_of (List.mem_of_getElem? (i := 388) rfl) rfl, xt_of (by decide +kernel) rfl, xt_of (by decide +kernel) rfl, by decide +kernel⟩, xt_of (by decide +kernel) rfl, xt_of (by decide +kernel) rfl⟩
set_option maxRecDepth 100000 in
theorem hcl_put : Cond.classLink RL 19 "java/lang/ArithmeticException" ∈ xt_tbl := xt_of (by decide +kernel) rfl
abbrev R_H_put : Room := { frames := 8, cells := 0, slots := 0, locals := 190 }
set_option maxHeartbeats 4000000 in
set_option maxRecDepth 100000 in
theorem chR_put (ad : Nat → Nat) (cA cL : ClassId) (o : Nat) (s : zT) (g : Nat → Int64) (key : Int32) (x : Int32) (hr : rok s) (hf : mBM_fits s (mBi_find s key) = true) : xctW cA cL yL_put cL_put 5 (some .int) [(0, 9, 12, 19)] R_H_put [.ref (ad 0), .int key, .int x, .ref o] (wo ad cA cL o s g) (some (.int 0)) (wo ad cA cL o ((mBM_put s key x).2) (vp_updL g 0 ((mBM_put s key x).1))) := by
  refine xctW_of (own := RL) (by decide) rfl (Nat.le_of_ble_eq_true rfl) (fun X hX hHX hty => ?_)
  show xs X cA RL cL_put 5 (some .int) R_H_put (wd ad cA s ++ [(o, .inl (cL, 1, .inr (.inl g)))]) 0 0 0 [(0, .ref (ad 0)), (1, .int key), (2, .int x), (3, .ref o)] []
  refine xs_aload_n 3 dL_put_0 rfl ?_
  refine xs_iconst (v := 0) dL_put_1 (by decide) ?_
  refine xs_aload_n 0 dL_put_2 rfl ?_
  refine xs_iload_n 1 dL_put_3 rfl ?_
  refine xs_iload_n 2 dL_put_4 rfl ?_
  refine xs_callF 0 (c_BM_put ad cA s key x hr hf) rfl rfl dL_put_5 kw_L_put (by decide) rfl rfl rfl (Nat.le_of_ble_eq_true rfl) ⟨Nat.zero_le _, Nat.zero_le _⟩ ?_
  refine xs_last (N := 1) (f := g) 17 hty dL_put_8 rfl xin01 rfl ?_
  refine xs_goto (t := 16) dL_put_9 (by decide) ?_
  refine xs_iconst (v := 0) dL_put_16 (by decide) ?_
  exact xs_iret hX rfl dL_put_17 rfl rfl
abbrev RT_H_put : Room := { frames := 8, cells := 1, slots := 6, locals := 190 }
set_option maxHeartbeats 4000000 in
set_option maxRecDepth 100000 in
theorem chT_put (ad : Nat → Nat) (cA cL : ClassId) (o : Nat) (s : zT) (g : Nat → Int64) (key : Int32) (x : Int32) (hr : rok s) (hf : mBM_fits s (mBi_find s key) = false) : xctW cA cL yL_put cL_put 5 (some .int) [(0, 9, 12, 19)] RT_H_put [.ref (ad 0), .int key, .int x, .ref o] (wo ad cA cL o s g) (some (.int 1)) (wo ad cA cL o s g) := by
  refine xctW_of (own := RL) (by decide) rfl (Nat.le_of_ble_eq_true rfl) (fun X hX hHX hty => ?_)
  show xs X cA RL cL_put 5 (some .int) RT_H_put (wd ad cA s ++ [(o, .inl (cL, 1, .inr (.inl g)))]) 0 0 0 [(0, .ref (ad 0)), (1, .int key), (2, .int x), (3, .ref o)] []
  refine xs_aload_n 3 dL_put_0 rfl ?_
  refine xs_iconst (v := 0) dL_put_1 (by decide) ?_
  refine xs_aload_n 0 dL_put_2 rfl ?_
  refine xs_iload_n 1 dL_put_3 rfl ?_
  refine xs_iload_n 2 dL_put_4 rfl ?_
  refine xs_callT 0 (cT_BM_put ad cA s key x hr hf) hHX dL_put_5 kw_L_put (by decide) rfl rfl rfl (Nat.le_of_ble_eq_true rfl) (by decide) (by decide) (by decide) hcl_put (by decide +kernel) (fun a => ?_)
  refine xs_astore (L' := [(4, _), (0, _), (1, _), (2, _), (3, _)]) dL_put_12 (by decide) rfl ?_
  refine xs_iconst (v := 1) dL_put_14 (by decide) ?_
  exact xs_iret hX rfl dL_put_15 rfl rfl
set_option maxRecDepth 100000 in
theorem kw_L_find : xwV RL 21 yX3_find cX3_find 5 (some .int) 2 := ⟨⟨xt_of (List.mem_of_getElem? (i := 513) rfl) rfl, xt_of (by decide +kernel) rfl, xt_of (by decide +kernel) rfl, by decide +kernel⟩, xt_of (by decide +kernel) rfl, xt_of (by decide +kernel) rfl⟩
set_option maxRecDepth 100000 in
theorem hcl_find : Cond.classLink RL 25 "java/util/NoSuchElementException" ∈ xt_tbl := xt_of (by decide +kernel) rfl
abbrev R_H_find : Room := { frames := 7, cells := 0, slots := 0, locals := 165 }
set_option maxHeartbeats 4000000 in
set_option maxRecDepth 100000 in
theorem chR_find (ad : Nat → Nat) (cA cL : ClassId) (o : Nat) (s : zT) (g : Nat → Int64) (key : Int32) (tk : Bool) (hr : rok s) (hf : ¬ mBi_find s key = 0) : xctW cA cL yL_find cL_find 5 (some .int) [(0, 10, 13, 25)] R_H_find [.ref (ad 0), .int key, .int (zb tk), .ref o] (wo ad cA cL o s g) (some (.int 0)) (wo ad cA cL o ((mBM_find s key tk).2) (vp_updL g 0 (((mBM_find s key tk).1).toInt64))) := by
  refine xctW_of (own := RL) (by decide) rfl (Nat.le_of_ble_eq_true rfl) (fun X hX hHX hty => ?_)
  show xs X cA RL cL_find 5 (some .int) R_H_find (wd ad cA s ++ [(o, .inl (cL, 1, .inr (.inl g)))]) 0 0 0 [(0, .ref (ad 0)), (1, .int key), (2, .int (zb tk)), (3, .ref o)] []
  refine xs_aload_n 3 dL_find_0 rfl ?_
  refine xs_iconst (v := 0) dL_find_1 (by decide) ?_
  refine xs_aload_n 0 dL_find_2 rfl ?_
  refine xs_iload_n 1 dL_find_3 rfl ?_
  refine xs_iload_n 2 dL_find_4 rfl ?_
  refine xs_callF 0 (c_BM_find ad cA s key tk hr hf) rfl rfl dL_find_5 kw_L_find (by decide) rfl rfl rfl (Nat.le_of_ble_eq_true rfl) ⟨Nat.zero_le _, Nat.zero_le _⟩ ?_
  refine xs_i2l dL_find_8 ?_
  refine xs_last (N := 1) (f := g) 17 hty dL_find_9 rfl xin01 rfl ?_
  refine xs_goto (t := 17) dL_find_10 (by decide) ?_
  refine xs_iconst (v := 0) dL_find_17 (by decide) ?_
  exact xs_iret hX rfl dL_find_18 rfl rfl
abbrev RT_H_find : Room := { frames := 7, cells := 1, slots := 6, locals := 165 }
set_option maxHeartbeats 4000000 in
set_option maxRecDepth 100000 in
theorem chT_find (ad : Nat → Nat) (cA cL : ClassId) (o : Nat) (s : zT) (g : Nat → Int64) (key : Int32) (tk : Bool) (hr : rok s) (hf : mBi_find s key = 0) : xctW cA cL yL_find cL_find 5 (some .int) [(0, 10, 13, 25)] RT_H_find [.ref (ad 0), .int key, .int (zb tk), .ref o] (wo ad cA cL o s g) (some (.int 1)) (wo ad cA cL o s g) := by
  refine xctW_of (own := RL) (by decide) rfl (Nat.le_of_ble_eq_true rfl) (fun X hX hHX hty => ?_)
  show xs X cA RL cL_find 5 (some .int) RT_H_find (wd ad cA s ++ [(o, .inl (cL, 1, .inr (.inl g)))]) 0 0 0 [(0, .ref (ad 0)), (1, .int key), (2, .int (zb tk)), (3, .ref o)] []
  refine xs_aload_n 3 dL_find_0 rfl ?_
  refine xs_iconst (v := 0) dL_find_1 (by decide) ?_
  refine xs_aload_n 0 dL_find_2 rfl ?_
  refine xs_iload_n 1 dL_find_3 rfl ?_
  refine xs_iload_n 2 dL_find_4 rfl ?_
  refine xs_callT 0 (cT_BM_find ad cA s key tk hr hf) hHX dL_find_5 kw_L_find (by decide) rfl rfl rfl (Nat.le_of_ble_eq_true rfl) (by decide) (by decide) (by decide) hcl_find (by decide +kernel) (fun a => ?_)
  refine xs_astore (L' := [(4, _), (0, _), (1, _), (2, _), (3, _)]) dL_find_13 (by decide) rfl ?_
  refine xs_iconst (v := 1) dL_find_15 (by decide) ?_
  exact xs_iret hX rfl dL_find_16 rfl rfl
set_option maxRecDepth 100000 in
theorem kw_L_fill : xwV RL 27 yX3_fill cX3_fill 7 (some .int) 3 := ⟨⟨xt_of (List.mem_of_getElem? (i := 535) rfl) rfl, xt_of (by decide +kernel) rfl, xt_of (by decide +kernel) rfl, by decide +kernel⟩, xt_of (by decide +kernel) rfl, xt_of (by decide +kernel) rfl⟩
set_option maxRecDepth 100000 in
theorem hcl_fill : Cond.classLink RL 13 "java/lang/IllegalArgumentException" ∈ xt_tbl := xt_of (by decide +kernel) rfl
abbrev R_H_fill : Room := { frames := 8, cells := 0, slots := 0, locals := 192 }
set_option maxHeartbeats 4000000 in
set_option maxRecDepth 100000 in
theorem chR_fill (ad : Nat → Nat) (cA cL : ClassId) (o : Nat) (s : zT) (g : Nat → Int64) (x : Int32) (step : Int32) (nn : Int32) (hr : rok s) (h1 : ¬ nn < 0) (h2 : nn ≤ 2000) : xctW cA cL yL_fill cL_fill 6 (some .int) [(0, 12, 15, 13)] R_H_fill [.ref (ad 0), .int x, .int step, .int nn, .ref o] (wo ad cA cL o s g) (some (.int 0)) (wo ad cA cL o (mBM_fillL step nn.toNatClampNeg 0 x s) (vp_updL g 0 (((mBM_fillL step nn.toNatClampNeg 0 x s).2 4 2).toInt64))) := by
  refine xctW_of (own := RL) (by decide) rfl (Nat.le_of_ble_eq_true rfl) (fun X hX hHX hty => ?_)
  show xs X cA RL cL_fill 6 (some .int) R_H_fill (wd ad cA s ++ [(o, .inl (cL, 1, .inr (.inl g)))]) 0 0 0 [(0, .ref (ad 0)), (1, .int x), (2, .int step), (3, .int nn), (4, .ref o)] []
  refine xs_aload 4 dL_fill_0 rfl ?_
  refine xs_iconst (v := 0) dL_fill_2 (by decide) ?_
  refine xs_aload_n 0 dL_fill_3 rfl ?_
  refine xs_iload_n 1 dL_fill_4 rfl ?_
  refine xs_iload_n 2 dL_fill_5 rfl ?_
  refine xs_iload_n 3 dL_fill_6 rfl ?_
  refine xs_callF 0 (c_BM_fill ad cA s x step nn hr h1 h2) rfl rfl dL_fill_7 kw_L_fill (by decide) rfl rfl rfl (Nat.le_of_ble_eq_true rfl) ⟨Nat.zero_le _, Nat.zero_le _⟩ ?_
  refine xs_i2l dL_fill_10 ?_
  refine xs_last (N := 1) (f := g) 17 hty dL_fill_11 rfl xin01 rfl ?_
  refine xs_goto (t := 19) dL_fill_12 (by decide) ?_
  refine xs_iconst (v := 0) dL_fill_19 (by decide) ?_
  exact xs_iret hX rfl dL_fill_20 rfl rfl
abbrev RT_H_fill : Room := { frames := 8, cells := 1, slots := 6, locals := 192 }
set_option maxHeartbeats 4000000 in
set_option maxRecDepth 100000 in
theorem chT_fill (ad : Nat → Nat) (cA cL : ClassId) (o : Nat) (s : zT) (g : Nat → Int64) (x : Int32) (step : Int32) (nn : Int32) (h : nn < 0 ∨ ¬ nn ≤ 2000) : xctW cA cL yL_fill cL_fill 6 (some .int) [(0, 12, 15, 13)] RT_H_fill [.ref (ad 0), .int x, .int step, .int nn, .ref o] (wo ad cA cL o s g) (some (.int 1)) (wo ad cA cL o s g) := by
  refine xctW_of (own := RL) (by decide) rfl (Nat.le_of_ble_eq_true rfl) (fun X hX hHX hty => ?_)
  show xs X cA RL cL_fill 6 (some .int) RT_H_fill (wd ad cA s ++ [(o, .inl (cL, 1, .inr (.inl g)))]) 0 0 0 [(0, .ref (ad 0)), (1, .int x), (2, .int step), (3, .int nn), (4, .ref o)] []
  refine xs_aload 4 dL_fill_0 rfl ?_
  refine xs_iconst (v := 0) dL_fill_2 (by decide) ?_
  refine xs_aload_n 0 dL_fill_3 rfl ?_
  refine xs_iload_n 1 dL_fill_4 rfl ?_
  refine xs_iload_n 2 dL_fill_5 rfl ?_
  refine xs_iload_n 3 dL_fill_6 rfl ?_
  refine xs_callT 0 (cT_BM_fill ad cA s x step nn h) hHX dL_fill_7 kw_L_fill (by decide) rfl rfl rfl (Nat.le_of_ble_eq_true rfl) (by decide) (by decide) (by decide) hcl_fill (by decide +kernel) (fun a => ?_)
  refine xs_astore (L' := [(5, _), (0, _), (1, _), (2, _), (3, _), (4, _)]) dL_fill_15 (by decide) rfl ?_
  refine xs_iconst (v := 1) dL_fill_17 (by decide) ?_
  exact xs_iret hX rfl dL_fill_18 rfl rfl
set_option maxRecDepth 100000 in
theorem kw_L_at : xwV RL 30 yX3_at cX3_at 4 (some .int) 1 := ⟨⟨xt_of (List.mem_of_getElem? (i := 542) rfl) rfl, xt_of (by decide +kernel) rfl, xt_of (by decide +kernel) rfl, by decide +kernel⟩, xt_of (by decide +kernel) rfl, xt_of (by decide +kernel) rfl⟩
set_option maxRecDepth 100000 in
theorem hcl_at : Cond.classLink RL 25 "java/util/NoSuchElementException" ∈ xt_tbl := xt_of (by decide +kernel) rfl
abbrev R_H_at : Room := { frames := 5, cells := 0, slots := 0, locals := 108 }
set_option maxHeartbeats 4000000 in
set_option maxRecDepth 100000 in
theorem chR_at (ad : Nat → Nat) (cA cL : ClassId) (o : Nat) (s : zT) (g : Nat → Int64) (i : Int32) (hr : rok s) (h1 : ¬ i < 0) (h2 : i < s.2 4 2) : xctW cA cL yL_at cL_at 4 (some .int) [(0, 9, 12, 25)] R_H_at [.ref (ad 0), .int i, .ref o] (wo ad cA cL o s g) (some (.int 0)) (wo ad cA cL o (s) (vp_updL g 0 ((mBM_at s i).toInt64))) := by
  refine xctW_of (own := RL) (by decide) rfl (Nat.le_of_ble_eq_true rfl) (fun X hX hHX hty => ?_)
  show xs X cA RL cL_at 4 (some .int) R_H_at (wd ad cA s ++ [(o, .inl (cL, 1, .inr (.inl g)))]) 0 0 0 [(0, .ref (ad 0)), (1, .int i), (2, .ref o)] []
  refine xs_aload_n 2 dL_at_0 rfl ?_
  refine xs_iconst (v := 0) dL_at_1 (by decide) ?_
  refine xs_aload_n 0 dL_at_2 rfl ?_
  refine xs_iload_n 1 dL_at_3 rfl ?_
  refine xs_callF 0 (c_BM_at ad cA s i hr h1 h2) rfl rfl dL_at_4 kw_L_at (by decide) rfl rfl rfl (Nat.le_of_ble_eq_true rfl) ⟨Nat.zero_le _, Nat.zero_le _⟩ ?_
  refine xs_i2l dL_at_7 ?_
  refine xs_last (N := 1) (f := g) 17 hty dL_at_8 rfl xin01 rfl ?_
  refine xs_goto (t := 15) dL_at_9 (by decide) ?_
  refine xs_iconst (v := 0) dL_at_15 (by decide) ?_
  exact xs_iret hX rfl dL_at_16 rfl rfl
abbrev RT_H_at : Room := { frames := 7, cells := 1, slots := 6, locals := 108 }
set_option maxHeartbeats 4000000 in
set_option maxRecDepth 100000 in
theorem chT_at (ad : Nat → Nat) (cA cL : ClassId) (o : Nat) (s : zT) (g : Nat → Int64) (i : Int32) (h : i < 0 ∨ ¬ i < s.2 4 2) : xctW cA cL yL_at cL_at 4 (some .int) [(0, 9, 12, 25)] RT_H_at [.ref (ad 0), .int i, .ref o] (wo ad cA cL o s g) (some (.int 1)) (wo ad cA cL o s g) := by
  refine xctW_of (own := RL) (by decide) rfl (Nat.le_of_ble_eq_true rfl) (fun X hX hHX hty => ?_)
  show xs X cA RL cL_at 4 (some .int) RT_H_at (wd ad cA s ++ [(o, .inl (cL, 1, .inr (.inl g)))]) 0 0 0 [(0, .ref (ad 0)), (1, .int i), (2, .ref o)] []
  refine xs_aload_n 2 dL_at_0 rfl ?_
  refine xs_iconst (v := 0) dL_at_1 (by decide) ?_
  refine xs_aload_n 0 dL_at_2 rfl ?_
  refine xs_iload_n 1 dL_at_3 rfl ?_
  refine xs_callT 0 (cT_BM_at ad cA s i h) hHX dL_at_4 kw_L_at (by decide) rfl rfl rfl (Nat.le_of_ble_eq_true rfl) (by decide) (by decide) (by decide) hcl_at (by decide +kernel) (fun a => ?_)
  refine xs_astore_n (L' := [(3, _), (0, _), (1, _), (2, _)]) dL_at_12 (by decide) rfl ?_
  refine xs_iconst (v := 1) dL_at_13 (by decide) ?_
  exact xs_iret hX rfl dL_at_14 rfl rfl
set_option maxRecDepth 100000 in
theorem kw_L_after : xwV RL 34 yX3_after cX3_after 4 (some .int) 1 := ⟨⟨xt_of (List.mem_of_getElem? (i := 549) rfl) rfl, xt_of (by decide +kernel) rfl, xt_of (by decide +kernel) rfl, by decide +kernel⟩, xt_of (by decide +kernel) rfl, xt_of (by decide +kernel) rfl⟩
set_option maxRecDepth 100000 in
theorem hcl_after : Cond.classLink RL 25 "java/util/NoSuchElementException" ∈ xt_tbl := xt_of (by decide +kernel) rfl
abbrev R_H_after : Room := { frames := 5, cells := 0, slots := 0, locals := 108 }
set_option maxHeartbeats 4000000 in
set_option maxRecDepth 100000 in
theorem chR_after (ad : Nat → Nat) (cA cL : ClassId) (o : Nat) (s : zT) (g : Nat → Int64) (key : Int32) (hr : rok s) (hf : ¬ mBM_after s key = 0) : xctW cA cL yL_after cL_after 4 (some .int) [(0, 9, 12, 25)] R_H_after [.ref (ad 0), .int key, .ref o] (wo ad cA cL o s g) (some (.int 0)) (wo ad cA cL o (s) (vp_updL g 0 ((s.2 0 (mBM_after s key)).toInt64))) := by
  refine xctW_of (own := RL) (by decide) rfl (Nat.le_of_ble_eq_true rfl) (fun X hX hHX hty => ?_)
  show xs X cA RL cL_after 4 (some .int) R_H_after (wd ad cA s ++ [(o, .inl (cL, 1, .inr (.inl g)))]) 0 0 0 [(0, .ref (ad 0)), (1, .int key), (2, .ref o)] []
  refine xs_aload_n 2 dL_after_0 rfl ?_
  refine xs_iconst (v := 0) dL_after_1 (by decide) ?_
  refine xs_aload_n 0 dL_after_2 rfl ?_
  refine xs_iload_n 1 dL_after_3 rfl ?_
  refine xs_callF 0 (c_BM_after ad cA s key hr hf) rfl rfl dL_after_4 kw_L_after (by decide) rfl rfl rfl (Nat.le_of_ble_eq_true rfl) ⟨Nat.zero_le _, Nat.zero_le _⟩ ?_
  refine xs_i2l dL_after_7 ?_
  refine xs_last (N := 1) (f := g) 17 hty dL_after_8 rfl xin01 rfl ?_
  refine xs_goto (t := 15) dL_after_9 (by decide) ?_
  refine xs_iconst (v := 0) dL_after_15 (by decide) ?_
  exact xs_iret hX rfl dL_after_16 rfl rfl
abbrev RT_H_after : Room := { frames := 7, cells := 1, slots := 6, locals := 108 }
set_option maxHeartbeats 4000000 in
set_option maxRecDepth 100000 in
theorem chT_after (ad : Nat → Nat) (cA cL : ClassId) (o : Nat) (s : zT) (g : Nat → Int64) (key : Int32) (hr : rok s) (hf : mBM_after s key = 0) : xctW cA cL yL_after cL_after 4 (some .int) [(0, 9, 12, 25)] RT_H_after [.ref (ad 0), .int key, .ref o] (wo ad cA cL o s g) (some (.int 1)) (wo ad cA cL o s g) := by
  refine xctW_of (own := RL) (by decide) rfl (Nat.le_of_ble_eq_true rfl) (fun X hX hHX hty => ?_)
  show xs X cA RL cL_after 4 (some .int) RT_H_after (wd ad cA s ++ [(o, .inl (cL, 1, .inr (.inl g)))]) 0 0 0 [(0, .ref (ad 0)), (1, .int key), (2, .ref o)] []
  refine xs_aload_n 2 dL_after_0 rfl ?_
  refine xs_iconst (v := 0) dL_after_1 (by decide) ?_
  refine xs_aload_n 0 dL_after_2 rfl ?_
  refine xs_iload_n 1 dL_after_3 rfl ?_
  refine xs_callT 0 (cT_BM_after ad cA s key hr hf) hHX dL_after_4 kw_L_after (by decide) rfl rfl rfl (Nat.le_of_ble_eq_true rfl) (by decide) (by decide) (by decide) hcl_after (by decide +kernel) (fun a => ?_)
  refine xs_astore_n (L' := [(3, _), (0, _), (1, _), (2, _)]) dL_after_12 (by decide) rfl ?_
  refine xs_iconst (v := 1) dL_after_13 (by decide) ?_
  exact xs_iret hX rfl dL_after_14 rfl rfl
end
section
/-! CHAINS IN ROWS -/
/-- from a along f through l to e -/
def Sg (f : Nat → zS) : zS → List zS → zS → Prop
  | a, [], e => a = e
  | a, x :: xs, e => a = x ∧ x ≠ 0 ∧ Sg f (f x) xs e
/-- g leads back along l, from its first one to p -/
def Bk (g : Nat → zS) : zS → List zS → Prop
  | _, [] => True
  | p, x :: xs => g x = p ∧ Bk g x xs
def lst : zS → List zS → zS
  | p, [] => p
  | _, x :: xs => lst x xs
theorem Sg_app {f : Nat → zS} : ∀ {l1 l2 : List zS} {a e : zS}, Sg f a (l1 ++ l2) e ↔ ∃ m, Sg f a l1 m ∧ Sg f m l2 e := by
  intro l1
  induction l1 with
  | nil => intro l2 a e; exact ⟨fun h => ⟨a, rfl, h⟩, fun ⟨m, h1, h2⟩ => by cases h1; exact h2⟩
  | cons x xs ih =>
    intro l2 a e
    refine ⟨fun ⟨h1, h2, h3⟩ => ?_, fun ⟨m, ⟨h1, h2, h3⟩, h4⟩ => ⟨h1, h2, ih.mpr ⟨m, h3, h4⟩⟩⟩
    obtain ⟨m, h4, h5⟩ := ih.mp h3
    exact ⟨m, ⟨h1, h2, h4⟩, h5⟩
theorem zne {a b : zS} (h : a ≠ b) : a.val ≠ b.val := fun q => h (Fin.ext q)
theorem Sg_up {f : Nat → zS} {b v : zS} : ∀ {l : List zS} {a e : zS}, b ∉ l → Sg f a l e → Sg (zup f b v) a l e := by
  intro l
  induction l with
  | nil => intro a e _ h; exact h
  | cons x xs ih =>
    intro a e hb h
    obtain ⟨h1, h2, h3⟩ := h
    refine ⟨h1, h2, ?_⟩
    rw [zup_ne (zne (fun q => hb (by rw [q]; exact List.mem_cons_self)))]
    exact ih (fun q => hb (List.mem_cons_of_mem _ q)) h3
theorem Sg_ne {f : Nat → zS} : ∀ {l : List zS} {a e x : zS}, Sg f a l e → x ∈ l → x ≠ 0 := by
  intro l
  induction l with
  | nil => intro a e x _ h; cases h
  | cons y ys ih =>
    intro a e x h hx
    rcases List.mem_cons.mp hx with rfl | hx
    · exact h.2.1
    · exact ih h.2.2 hx
theorem Sg_fun {f : Nat → zS} : ∀ {l : List zS} {a e e' : zS}, Sg f a l e → Sg f a l e' → e = e' := by
  intro l
  induction l with
  | nil => intro a e e' h h'; exact h.symm.trans h'
  | cons x xs ih => intro a e e' h h'; exact ih h.2.2 h'.2.2
theorem Sg_congr {f g : Nat → zS} : ∀ {l : List zS} {a e : zS}, (∀ x ∈ l, g x = f x) → Sg f a l e → Sg g a l e := by
  intro l
  induction l with
  | nil => intro a e _ h; exact h
  | cons x xs ih =>
    intro a e hg h
    refine ⟨h.1, h.2.1, ?_⟩
    rw [hg x List.mem_cons_self]
    exact ih (fun y hy => hg y (List.mem_cons_of_mem _ hy)) h.2.2
theorem Bk_app {g : Nat → zS} : ∀ {l1 l2 : List zS} {p : zS}, Bk g p (l1 ++ l2) ↔ Bk g p l1 ∧ Bk g (lst p l1) l2 := by
  intro l1
  induction l1 with
  | nil => intro l2 p; exact ⟨fun h => ⟨trivial, h⟩, fun h => h.2⟩
  | cons x xs ih => intro l2 p; exact ⟨fun h => ⟨⟨h.1, (ih.mp h.2).1⟩, (ih.mp h.2).2⟩, fun h => ⟨h.1.1, ih.mpr ⟨h.1.2, h.2⟩⟩⟩
theorem Bk_up {g : Nat → zS} {b v : zS} : ∀ {l : List zS} {p : zS}, b ∉ l → Bk g p l → Bk (zup g b v) p l := by
  intro l
  induction l with
  | nil => intro p _ h; exact h
  | cons x xs ih =>
    intro p hb h
    refine ⟨?_, ih (fun q => hb (List.mem_cons_of_mem _ q)) h.2⟩
    rw [zup_ne (zne (fun q => hb (by rw [q]; exact List.mem_cons_self)))]
    exact h.1
theorem Bk_congr {f g : Nat → zS} : ∀ {l : List zS} {p : zS}, (∀ x ∈ l, g x = f x) → Bk f p l → Bk g p l := by
  intro l
  induction l with
  | nil => intro p _ h; exact h
  | cons x xs ih => intro p hg h; exact ⟨(hg x List.mem_cons_self).trans h.1, ih (fun y hy => hg y (List.mem_cons_of_mem _ hy)) h.2⟩
theorem lst_app : ∀ {l1 l2 : List zS} {p : zS}, lst p (l1 ++ l2) = lst (lst p l1) l2 := by
  intro l1
  induction l1 with
  | nil => intro l2 p; rfl
  | cons x xs ih => intro l2 p; exact ih
theorem lst_mem : ∀ {l : List zS} {p : zS}, lst p l = p ∨ lst p l ∈ l := by
  intro l
  induction l with
  | nil => intro p; exact Or.inl rfl
  | cons x xs ih =>
    intro p
    rcases ih (p := x) with h | h
    · exact Or.inr (by show lst x xs ∈ _; rw [h]; exact List.mem_cons_self)
    · exact Or.inr (List.mem_cons_of_mem _ h)
theorem lst_in {l : List zS} {p : zS} (h : l ≠ []) : lst p l ∈ l := by
  cases l with
  | nil => exact absurd rfl h
  | cons x xs =>
    rcases lst_mem (l := xs) (p := x) with h1 | h1
    · show lst x xs ∈ _
      rw [h1]; exact List.mem_cons_self
    · exact List.mem_cons_of_mem _ h1
/-- a list that isn't empty ends in its last one -/
theorem lst_split {l : List zS} {p : zS} (h : l ≠ []) : ∃ l0, l = l0 ++ [lst p l] := by
  induction l generalizing p with
  | nil => exact absurd rfl h
  | cons x xs ih =>
    cases xs with
    | nil => exact ⟨[], rfl⟩
    | cons y ys =>
      obtain ⟨l0, h0⟩ := ih (p := x) (by simp)
      exact ⟨x :: l0, by show x :: (y :: ys) = x :: (l0 ++ [lst x (y :: ys)]); rw [← h0]⟩
/-- the last one's step is set -/
theorem Sg_snoc {f : Nat → zS} {l : List zS} {a x e : zS} : Sg f a (l ++ [x]) e ↔ Sg f a l x ∧ x ≠ 0 ∧ f x = e := by
  rw [Sg_app]
  constructor
  · rintro ⟨m, h1, h2, h3, h4⟩
    subst h2
    exact ⟨h1, h3, h4⟩
  · rintro ⟨h1, h2, h3⟩
    exact ⟨x, h1, rfl, h2, h3⟩
end
section
/-! THE LINE: ln: the slots in use, in their order; fr: the free ones -/
def LnI (s : zT) (ln fr : List zS) : Prop :=
  Sg (s.1 1) (s.1 9 0) ln 0 ∧ Bk (s.1 0) 0 ln ∧ s.1 9 1 = lst 0 ln ∧ Sg (s.1 1) (s.1 9 2) fr 0 ∧ (ln ++ fr).Nodup ∧ ln.length + fr.length = 2001 ∧ s.2 4 2 = nI ln.length
theorem LnI_app_rows (s : zT) (a : zS) : (mLn_append s a).1 0 = zup (s.1 0) a (s.1 9 1) ∧ (mLn_append s a).1 1 = (if s.1 9 1 = 0 then zup (s.1 1) a 0 else zup (zup (s.1 1) a 0) (s.1 9 1) a) ∧
    (mLn_append s a).1 9 0 = (if s.1 9 1 = 0 then a else s.1 9 0) ∧ (mLn_append s a).1 9 1 = a ∧ (mLn_append s a).1 9 2 = s.1 9 2 ∧ ∀ q, q ≠ 0 → q ≠ 1 → q ≠ 9 → (mLn_append s a).1 q = s.1 q := by
  have e : (u1 (u1 s 0 a.val (s.1 9 1)) 1 a.val 0).1 9 1 = s.1 9 1 := rfl
  by_cases h : s.1 9 1 = 0
  · unfold mLn_append
    simp only [e, if_pos h]
    exact ⟨rfl, rfl, rfl, rfl, rfl, fun q h0 h1 h9 => by rw [u1_ne h9, u1_ne h9, u1_ne h1, u1_ne h0]⟩
  · unfold mLn_append
    simp only [e, if_neg h]
    exact ⟨rfl, rfl, rfl, rfl, rfl, fun q h0 h1 h9 => by rw [u1_ne h9, u1_ne h1, u1_ne h1, u1_ne h0]⟩
theorem LnI_unl_rows (s : zT) (a : zS) : (mLn_unlink s a).1 0 = (if s.1 1 a = 0 then s.1 0 else zup (s.1 0) (s.1 1 a) (s.1 0 a)) ∧ (mLn_unlink s a).1 1 = (if s.1 0 a = 0 then s.1 1 else zup (s.1 1) (s.1 0 a) (s.1 1 a)) ∧
    (mLn_unlink s a).1 9 0 = (if s.1 0 a = 0 then s.1 1 a else s.1 9 0) ∧ (mLn_unlink s a).1 9 1 = (if s.1 1 a = 0 then s.1 0 a else s.1 9 1) ∧ (mLn_unlink s a).1 9 2 = s.1 9 2 ∧ ∀ q, q ≠ 0 → q ≠ 1 → q ≠ 9 → (mLn_unlink s a).1 q = s.1 q := by
  unfold mLn_unlink
  by_cases h : s.1 0 a = 0 <;> by_cases k : s.1 1 a = 0
  · simp only [if_pos h, if_pos k]
    exact ⟨rfl, rfl, rfl, rfl, rfl, fun q h0 h1 h9 => by rw [u1_ne h9, u1_ne h9]⟩
  · simp only [if_pos h, if_neg k]
    exact ⟨rfl, rfl, rfl, rfl, rfl, fun q h0 h1 h9 => by rw [u1_ne h0, u1_ne h9]⟩
  · simp only [if_neg h, if_pos k]
    exact ⟨rfl, rfl, rfl, rfl, rfl, fun q h0 h1 h9 => by rw [u1_ne h9, u1_ne h1]⟩
  · simp only [if_neg h, if_neg k]
    exact ⟨rfl, rfl, rfl, rfl, rfl, fun q h0 h1 h9 => by rw [u1_ne h0, u1_ne h1]⟩
/-- a slot comes to the end -/
theorem LnI_append {s : zT} {ln fr : List zS} {a : zS} (h1 : Sg (s.1 1) (s.1 9 0) ln 0) (h2 : Bk (s.1 0) 0 ln) (h3 : s.1 9 1 = lst 0 ln) (hf : Sg (s.1 1) (s.1 9 2) fr 0) (nd : (a :: (ln ++ fr)).Nodup) (a0 : a ≠ 0) :
    Sg ((mLn_append s a).1 1) ((mLn_append s a).1 9 0) (ln ++ [a]) 0 ∧ Bk ((mLn_append s a).1 0) 0 (ln ++ [a]) ∧ (mLn_append s a).1 9 1 = lst 0 (ln ++ [a]) ∧ Sg ((mLn_append s a).1 1) ((mLn_append s a).1 9 2) fr 0 := by
  obtain ⟨r0, r1, r2, r3, r4, -⟩ := LnI_app_rows s a
  have ha : a ∉ ln ++ fr := (List.nodup_cons.mp nd).1
  have nd2 := (List.nodup_cons.mp nd).2
  have hal : a ∉ ln := fun q => ha (List.mem_append_left _ q)
  have haf : a ∉ fr := fun q => ha (List.mem_append_right _ q)
  refine ⟨?_, ?_, ?_, ?_⟩
  · rw [r1, r2]
    by_cases hl : ln = []
    · subst hl
      have h0 : s.1 9 1 = 0 := h3
      rw [if_pos h0, if_pos h0]
      exact ⟨rfl, a0, zup_eq⟩
    · have hm : lst 0 ln ∈ ln := lst_in hl
      obtain ⟨l0, e0⟩ := lst_split (p := 0) hl
      have hx0 : ¬ s.1 9 1 = 0 := by rw [h3]; exact Sg_ne h1 hm
      rw [if_neg hx0, if_neg hx0, h3]
      generalize hx : lst 0 ln = x at *
      have hxa : x ≠ a := fun q => hal (q ▸ hm)
      subst e0
      have hxl : x ∉ l0 := fun q => by
        have := (List.nodup_append.mp (List.nodup_append.mp nd2).1).2.2 x q x List.mem_cons_self
        exact this rfl
      have hal0 : a ∉ l0 := fun q => hal (List.mem_append_left _ q)
      obtain ⟨g1, g2, g3⟩ := Sg_snoc.mp h1
      refine Sg_snoc.mpr ⟨Sg_snoc.mpr ⟨Sg_up hxl (Sg_up hal0 g1), g2, zup_eq⟩, a0, ?_⟩
      rw [zup_ne (zne hxa.symm)]
      exact zup_eq
  · rw [r0, Bk_app]
    refine ⟨Bk_up hal h2, ?_, trivial⟩
    rw [zup_eq]
    exact h3
  · rw [r3, lst_app]
    rfl
  · rw [r1, r4]
    by_cases h0 : s.1 9 1 = 0
    · rw [if_pos h0]
      exact Sg_up haf hf
    · rw [if_neg h0]
      refine Sg_up ?_ (Sg_up haf hf)
      have hl : ln ≠ [] := fun q => h0 (by rw [h3, q]; rfl)
      rw [h3]
      exact fun q => (List.nodup_append.mp nd2).2.2 _ (lst_in hl) _ q rfl
/-- a slot goes out of the line -/
theorem LnI_unlink {s : zT} {l1 l2 fr : List zS} {a : zS} (h1 : Sg (s.1 1) (s.1 9 0) (l1 ++ a :: l2) 0) (h2 : Bk (s.1 0) 0 (l1 ++ a :: l2)) (h3 : s.1 9 1 = lst 0 (l1 ++ a :: l2)) (hf : Sg (s.1 1) (s.1 9 2) fr 0) (nd : ((l1 ++ a :: l2) ++ fr).Nodup) :
    Sg ((mLn_unlink s a).1 1) ((mLn_unlink s a).1 9 0) (l1 ++ l2) 0 ∧ Bk ((mLn_unlink s a).1 0) 0 (l1 ++ l2) ∧ (mLn_unlink s a).1 9 1 = lst 0 (l1 ++ l2) ∧ Sg ((mLn_unlink s a).1 1) ((mLn_unlink s a).1 9 2) fr 0 := by
  obtain ⟨r0, r1, r2, r3, r4, -⟩ := LnI_unl_rows s a
  obtain ⟨m, g1, rfl, g2, g3⟩ := Sg_app.mp h1
  obtain ⟨b1, b2, b3⟩ := Bk_app.mp h2
  have ndl := (List.nodup_append.mp nd).1
  have nd1 := (List.nodup_append.mp ndl).1
  have nd2 := (List.nodup_cons.mp (List.nodup_append.mp ndl).2.1).2
  have d12 : ∀ x ∈ l1, ∀ y ∈ l2, x ≠ y := fun x hx y hy => (List.nodup_append.mp ndl).2.2 x hx y (List.mem_cons_of_mem _ hy)
  have d1f : ∀ x ∈ l1, x ∉ fr := fun x hx q => (List.nodup_append.mp nd).2.2 x (List.mem_append_left _ hx) x q rfl
  have e1 : s.1 0 m = lst 0 l1 := b2
  have z1 : s.1 0 m = 0 ↔ l1 = [] := by
    rw [e1]
    refine ⟨fun q => ?_, fun q => by rw [q]; rfl⟩
    by_cases hl : l1 = []
    · exact hl
    · exact absurd q (Sg_ne g1 (lst_in hl))
  have z2 : s.1 1 m = 0 ↔ l2 = [] := by
    cases l2 with
    | nil => exact ⟨fun _ => rfl, fun _ => g3⟩
    | cons y ys => exact ⟨fun q => absurd (g3.1.symm.trans q) g3.2.1, fun q => by cases q⟩
  refine ⟨?_, ?_, ?_, ?_⟩
  · rw [r1, r2]
    by_cases hl : l1 = []
    · rw [if_pos (z1.mpr hl), if_pos (z1.mpr hl)]
      subst hl
      exact g3
    · rw [if_neg (fun q => hl (z1.mp q)), if_neg (fun q => hl (z1.mp q)), e1]
      obtain ⟨l0, e0⟩ := lst_split (p := 0) hl
      have hxm : lst 0 l1 ∈ l1 := lst_in hl
      generalize hx : lst 0 l1 = x at *
      have hxl : x ∉ l0 := fun q => by
        rw [e0] at nd1
        exact (List.nodup_append.mp nd1).2.2 x q x List.mem_cons_self rfl
      rw [e0] at g1
      obtain ⟨k1, k2, k3⟩ := Sg_snoc.mp g1
      refine Sg_app.mpr ⟨s.1 1 m, ?_, Sg_up (fun q => d12 x hxm x q rfl) g3⟩
      rw [e0]
      exact Sg_snoc.mpr ⟨Sg_up hxl k1, k2, zup_eq⟩
  · rw [r0]
    cases l2 with
    | nil =>
      rw [if_pos (z2.mpr rfl), List.append_nil]
      exact b1
    | cons y ys =>
      rw [if_neg (fun q => by have := z2.mp q; cases this)]
      have ey : s.1 1 m = y := g3.1
      rw [ey, e1]
      refine Bk_app.mpr ⟨Bk_up (fun q => d12 y q y List.mem_cons_self rfl) b1, zup_eq, Bk_up (List.nodup_cons.mp nd2).1 b3.2⟩
  · rw [r3]
    cases l2 with
    | nil =>
      rw [if_pos (z2.mpr rfl), List.append_nil]
      exact e1
    | cons y ys =>
      rw [if_neg (fun q => by have := z2.mp q; cases this), h3, lst_app, lst_app]
      rfl
  · rw [r1, r4]
    by_cases hl : l1 = []
    · rw [if_pos (z1.mpr hl)]
      exact hf
    · rw [if_neg (fun q => hl (z1.mp q)), e1]
      exact Sg_up (d1f _ (lst_in hl)) hf
theorem LnI_join {s : zT} {ln fr : List zS} (h : LnI s ln fr) (hl : ln.length ≤ 2000) : ∃ a fr', fr = a :: fr' ∧ (mLn_join s).1 = a ∧ a ≠ 0 ∧ LnI (mLn_join s).2 (ln ++ [a]) fr' := by
  obtain ⟨h1, h2, h3, h4, h5, h6, h7⟩ := h
  cases fr with
  | nil => simp at h6; omega
  | cons a fr' =>
    obtain ⟨g1, g2, g3⟩ := h4
    have ea : (mLn_join s).1 = a := g1
    refine ⟨a, fr', rfl, ea, g2, ?_⟩
    have hs : (mLn_join s).2 = u2 (mLn_append (u1 s 9 2 (s.1 1 a)) a) 4 2 (s.2 4 2 + 1) := by
      unfold mLn_join
      try dsimp only
      rw [g1, Ln_append_2]
      rfl
    have nd : (a :: (ln ++ fr')).Nodup := by
      have := List.perm_middle.nodup_iff.mp h5
      exact this
    obtain ⟨k1, k2, k3, k4⟩ := LnI_append (s := u1 s 9 2 (s.1 1 a)) (ln := ln) (fr := fr') h1 h2 h3 g3 nd g2
    rw [hs]
    refine ⟨k1, k2, k3, k4, ?_, ?_, ?_⟩
    · rw [List.append_assoc]
      exact h5
    · simp at h6 ⊢
      omega
    · show (s.2 4 2 + 1) = _
      rw [h7, nI_1, List.length_append]
      rfl
theorem LnI_leave {s : zT} {l1 l2 fr : List zS} {a : zS} (h : LnI s (l1 ++ a :: l2) fr) : LnI (mLn_leave s a) (l1 ++ l2) (a :: fr) := by
  obtain ⟨h1, h2, h3, h4, h5, h6, h7⟩ := h
  obtain ⟨k1, k2, k3, k4⟩ := LnI_unlink h1 h2 h3 h4 h5
  have a0 : a ≠ 0 := Sg_ne h1 (List.mem_append_right _ List.mem_cons_self)
  have hp : ((l1 ++ a :: l2) ++ fr).Perm ((l1 ++ l2) ++ a :: fr) := by
    have p1 : ((l1 ++ a :: l2) ++ fr).Perm (a :: ((l1 ++ l2) ++ fr)) := by
      rw [List.append_assoc, List.append_assoc]
      exact List.perm_middle
    exact p1.trans List.perm_middle.symm
  have nd := hp.nodup_iff.mp h5
  have nd2 := List.perm_middle.nodup_iff.mp nd
  have hal : a ∉ l1 ++ l2 := fun q => (List.nodup_cons.mp nd2).1 (List.mem_append_left _ q)
  have haf : a ∉ fr := fun q => (List.nodup_cons.mp nd2).1 (List.mem_append_right _ q)
  refine ⟨Sg_up hal k1, k2, k3, ⟨rfl, a0, ?_⟩, nd, ?_, ?_⟩
  · show Sg (zup ((mLn_unlink s a).1 1) a _) (zup ((mLn_unlink s a).1 1) a _ a) fr 0
    rw [zup_eq]
    exact Sg_up haf k4
  · simp at h6 ⊢
    omega
  · show (mLn_unlink s a).2 4 2 - 1 = _
    rw [Ln_unlink_2, h7]
    have e : (l1 ++ a :: l2).length = (l1 ++ l2).length + 1 := by simp; omega
    rw [e, nI_pred]
theorem LnI_toEnd {s : zT} {l1 l2 fr : List zS} {a : zS} (h : LnI s (l1 ++ a :: l2) fr) : LnI (mLn_toEnd s a) ((l1 ++ l2) ++ [a]) fr := by
  obtain ⟨h1, h2, h3, h4, h5, h6, h7⟩ := h
  obtain ⟨k1, k2, k3, k4⟩ := LnI_unlink h1 h2 h3 h4 h5
  have a0 : a ≠ 0 := Sg_ne h1 (List.mem_append_right _ List.mem_cons_self)
  have p1 : ((l1 ++ a :: l2) ++ fr).Perm (a :: ((l1 ++ l2) ++ fr)) := by
    rw [List.append_assoc, List.append_assoc]
    exact List.perm_middle
  have nd := p1.nodup_iff.mp h5
  obtain ⟨j1, j2, j3, j4⟩ := LnI_append k1 k2 k3 k4 nd a0
  refine ⟨j1, j2, j3, j4, ?_, ?_, ?_⟩
  · rw [List.append_assoc]
    exact List.perm_middle.nodup_iff.mpr nd
  · simp at h6 ⊢
    omega
  · show (mLn_append (mLn_unlink s a) a).2 4 2 = _
    rw [Ln_append_2, Ln_unlink_2, h7]
    have e : ((l1 ++ l2) ++ [a]).length = (l1 ++ a :: l2).length := by simp
    rw [e]
theorem LnI_drain {s : zT} {ln fr : List zS} (h : LnI s ln fr) : LnI (mLn_drain s) [] (ln ++ fr) := by
  obtain ⟨h1, h2, h3, h4, h5, h6, h7⟩ := h
  by_cases hl : ln = []
  · subst hl
    have h0 : s.1 9 1 = 0 := h3
    unfold mLn_drain
    simp only [if_pos h0]
    exact ⟨rfl, trivial, rfl, h4, h5, h6, rfl⟩
  · have hm : lst 0 ln ∈ ln := lst_in hl
    have hx0 : ¬ s.1 9 1 = 0 := by rw [h3]; exact Sg_ne h1 hm
    obtain ⟨l0, e0⟩ := lst_split (p := 0) hl
    unfold mLn_drain
    simp only [if_neg hx0]
    refine ⟨rfl, trivial, rfl, ?_, h5, by simp; omega, rfl⟩
    show Sg (zup (s.1 1) (s.1 9 1) (s.1 9 2)) (s.1 9 0) (ln ++ fr) 0
    rw [h3]
    have hxf : lst 0 ln ∉ fr := fun q => (List.nodup_append.mp h5).2.2 _ hm _ q rfl
    refine Sg_app.mpr ⟨s.1 9 2, ?_, Sg_up hxf h4⟩
    generalize hx : lst 0 ln = x at *
    subst e0
    have hxl : x ∉ l0 := fun q => (List.nodup_append.mp (List.nodup_append.mp h5).1).2.2 x q x List.mem_cons_self rfl
    obtain ⟨g1, g2, g3⟩ := Sg_snoc.mp h1
    exact Sg_snoc.mpr ⟨Sg_up hxl g1, g2, zup_eq⟩
theorem rankL_spec : ∀ (l : List zS) (i : Nat) (a : zS) (s : zT), Sg (s.1 1) a l 0 → l.Nodup → (∀ x, x ∉ l → (mLn_rankL l.length i a s).2 2 x = s.2 2 x) ∧ ∀ (j : Nat) (x : zS), l[j]? = some x → (mLn_rankL l.length i a s).2 2 x = nI (i + j) := by
  intro l
  induction l with
  | nil => intro i a s _ _; exact ⟨fun _ _ => rfl, fun j x h => by simp at h⟩
  | cons y ys ih =>
    intro i a s h nd
    obtain ⟨rfl, h2, h3⟩ := h
    obtain ⟨n1, n2⟩ := List.nodup_cons.mp nd
    obtain ⟨g1, g2⟩ := ih (i + 1) (s.1 1 a) (u2 s 2 a (nI i)) h3 n2
    show (∀ x, x ∉ a :: ys → (mLn_rankL ys.length (i + 1) (s.1 1 a) (u2 s 2 a (nI i))).2 2 x = s.2 2 x) ∧ ∀ (j : Nat) (x : zS), (a :: ys)[j]? = some x → (mLn_rankL ys.length (i + 1) (s.1 1 a) (u2 s 2 a (nI i))).2 2 x = nI (i + j)
    refine ⟨fun x hx => ?_, fun j x hj => ?_⟩
    · rw [g1 x (fun q => hx (List.mem_cons_of_mem _ q)), u2_eq, zup_ne (zne (fun q => hx (by rw [q]; exact List.mem_cons_self)))]
    · cases j with
      | zero =>
        have : a = x := by simpa using hj
        subst this
        rw [g1 a n1, u2_eq, zup_eq]
        rfl
      | succ j =>
        rw [g2 j x (by simpa using hj), show i + 1 + j = i + (j + 1) by omega]
theorem LnI_rank {s : zT} {ln fr : List zS} (h : LnI s ln fr) : (mLn_rank s).1 = s.1 ∧ (∀ q, q ≠ 2 → (mLn_rank s).2 q = s.2 q) ∧ ∀ (j : Nat) (x : zS), ln[j]? = some x → (mLn_rank s).2 2 x = nI j := by
  obtain ⟨h1, h2, h3, h4, h5, h6, h7⟩ := h
  have hlen : (s.2 4 2).toNatClampNeg = ln.length := by rw [h7, nI_clamp (by omega)]
  unfold mLn_rank
  rw [hlen]
  refine ⟨Ln_rankL_1 _ _ _ _, fun q hq => Ln_rankL_2 _ _ _ _ q hq, fun j x hj => ?_⟩
  rw [(rankL_spec ln 0 (s.1 9 0) s h1 (List.nodup_append.mp h5).1).2 j x hj, Nat.zero_add]
theorem freeL_spec (s : zT) : ∀ (l : List zS) (n i : Nat) (a : zS), Sg (s.1 1) a l 0 → l.length < n → mLn_freeL s n i a = nI (i + l.length) := by
  intro l
  induction l with
  | nil =>
    intro n i a h hn
    cases n with
    | zero => omega
    | succ n => rw [mLn_freeL, if_pos (show a = 0 from h)]; rfl
  | cons y ys ih =>
    intro n i a h hn
    obtain ⟨rfl, h2, h3⟩ := h
    cases n with
    | zero => omega
    | succ n =>
      rw [mLn_freeL, if_neg h2, ih n (i + 1) _ h3 (by simp at hn; omega)]
      rw [show i + 1 + ys.length = i + (a :: ys).length by simp; omega]
theorem faL_spec (s : zT) : ∀ (l : List zS) (n i : Nat) (x : Int32) (p a : zS), Sg (s.1 1) a l 0 → Bk (s.1 0) p l → l.length < n → mLn_faL s n i x p a = mLn_fa1 s x (i + l.length) (lst p l) := by
  intro l
  induction l with
  | nil =>
    intro n i x p a h _ hn
    cases n with
    | zero => omega
    | succ n => rw [mLn_faL, if_pos (show a = 0 from h)]; rfl
  | cons y ys ih =>
    intro n i x p a h hb hn
    obtain ⟨rfl, h2, h3⟩ := h
    cases n with
    | zero => omega
    | succ n =>
      rw [mLn_faL, if_neg h2, if_pos hb.1, ih n (i + 1) x a _ h3 hb.2 (by simp at hn; omega)]
      rw [show i + 1 + ys.length = i + (a :: ys).length by simp; omega]
      rfl
theorem LnI_faults {s : zT} {ln fr : List zS} (h : LnI s ln fr) : mLn_faults s = 0 := by
  obtain ⟨h1, h2, h3, h4, h5, h6, h7⟩ := h
  unfold mLn_faults
  rw [faL_spec s ln 2002 0 0 0 _ h1 h2 (by omega), Nat.zero_add]
  have e : mLn_free s = nI fr.length := by
    unfold mLn_free
    rw [freeL_spec s fr 2002 0 _ h4 (by omega), Nat.zero_add]
  unfold mLn_fa1 mLn_fa2 mLn_fa3
  rw [if_pos h3.symm, if_pos h7.symm, e, nI_add, h6]
  rfl
end
section
/-! THE TREES. zAv s d h a l: at most d levels deep, the tree at a is balanced, h high, and holds the slots l from left to right -/
def zAv (s : zT) : Nat → Nat → zS → List zS → Prop
  | 0, h, a, l => h = 0 ∧ a = 0 ∧ l = []
  | d + 1, h, a, l => (h = 0 ∧ a = 0 ∧ l = []) ∨ (a ≠ 0 ∧ ∃ (hl hr : Nat) (l1 l2 : List zS), zAv s d hl (s.1 6 a) l1 ∧ zAv s d hr (s.1 7 a) l2 ∧ h = max hl hr + 1 ∧ hl ≤ hr + 1 ∧ hr ≤ hl + 1 ∧ s.2 1 a = nI h ∧ l = l1 ++ a :: l2)
def zAt (s : zT) (h : Nat) (a : zS) (l : List zS) : Prop := ∃ d, zAv s d h a l
theorem zAv_succ {s : zT} : ∀ {d h : Nat} {a : zS} {l : List zS}, zAv s d h a l → zAv s (d + 1) h a l := by
  intro d
  induction d with
  | zero => intro h a l q; exact Or.inl q
  | succ d ih =>
    intro h a l q
    rcases q with q | ⟨a0, hl, hr, l1, l2, q1, q2, q3⟩
    · exact Or.inl q
    · exact Or.inr ⟨a0, hl, hr, l1, l2, ih q1, ih q2, q3⟩
theorem zAv_mono {s : zT} {d d' h : Nat} {a : zS} {l : List zS} (q : zAv s d h a l) (hd : d ≤ d') : zAv s d' h a l := by
  induction hd with
  | refl => exact q
  | step _ ih => exact zAv_succ ih
theorem zAt_nil (s : zT) : zAt s 0 0 [] := ⟨0, rfl, rfl, rfl⟩
theorem zAt_node {s : zT} {hl hr h : Nat} {a : zS} {l1 l2 l : List zS} (q1 : zAt s hl (s.1 6 a) l1) (q2 : zAt s hr (s.1 7 a) l2) (a0 : a ≠ 0) (h1 : hl ≤ hr + 1) (h2 : hr ≤ hl + 1) (e : h = max hl hr + 1) (h3 : s.2 1 a = nI h) (el : l = l1 ++ a :: l2) : zAt s h a l := by
  obtain ⟨d1, q1⟩ := q1
  obtain ⟨d2, q2⟩ := q2
  exact ⟨max d1 d2 + 1, Or.inr ⟨a0, hl, hr, l1, l2, zAv_mono q1 (by omega), zAv_mono q2 (by omega), e, h1, h2, h3, el⟩⟩
theorem zAt_cases {s : zT} {h : Nat} {a : zS} {l : List zS} (q : zAt s h a l) : (h = 0 ∧ a = 0 ∧ l = []) ∨ (a ≠ 0 ∧ ∃ (hl hr : Nat) (l1 l2 : List zS), zAt s hl (s.1 6 a) l1 ∧ zAt s hr (s.1 7 a) l2 ∧ h = max hl hr + 1 ∧ hl ≤ hr + 1 ∧ hr ≤ hl + 1 ∧ s.2 1 a = nI h ∧ l = l1 ++ a :: l2) := by
  obtain ⟨d, q⟩ := q
  cases d with
  | zero => exact Or.inl q
  | succ d =>
    rcases q with q | ⟨a0, hl, hr, l1, l2, q1, q2, q3⟩
    · exact Or.inl q
    · exact Or.inr ⟨a0, hl, hr, l1, l2, ⟨d, q1⟩, ⟨d, q2⟩, q3⟩
theorem zAv_congr {s s' : zT} : ∀ {d h : Nat} {a : zS} {l : List zS}, (∀ x ∈ l, s'.1 6 x = s.1 6 x ∧ s'.1 7 x = s.1 7 x ∧ s'.2 1 x = s.2 1 x) → zAv s d h a l → zAv s' d h a l := by
  intro d
  induction d with
  | zero => intro h a l _ q; exact q
  | succ d ih =>
    intro h a l hc q
    rcases q with q | ⟨a0, hl, hr, l1, l2, q1, q2, q3, q4, q5, q6, rfl⟩
    · exact Or.inl q
    · obtain ⟨c1, c2, c3⟩ := hc a (List.mem_append_right _ List.mem_cons_self)
      refine Or.inr ⟨a0, hl, hr, l1, l2, ?_, ?_, q3, q4, q5, c3.trans q6, rfl⟩
      · rw [c1]
        exact ih (fun x hx => hc x (List.mem_append_left _ hx)) q1
      · rw [c2]
        exact ih (fun x hx => hc x (List.mem_append_right _ (List.mem_cons_of_mem _ hx))) q2
theorem zAt_congr {s s' : zT} {h : Nat} {a : zS} {l : List zS} (hc : ∀ x ∈ l, s'.1 6 x = s.1 6 x ∧ s'.1 7 x = s.1 7 x ∧ s'.2 1 x = s.2 1 x) (q : zAt s h a l) : zAt s' h a l := by
  obtain ⟨d, q⟩ := q
  exact ⟨d, zAv_congr hc q⟩
theorem zAt_0 {s : zT} {h : Nat} {a : zS} {l : List zS} (q : zAt s h a l) : (a = 0 ↔ h = 0) ∧ (a = 0 ↔ l = []) := by
  rcases zAt_cases q with ⟨h1, h2, h3⟩ | ⟨a0, hl, hr, l1, l2, -, -, e, -, -, -, rfl⟩
  · exact ⟨⟨fun _ => h1, fun _ => h2⟩, ⟨fun _ => h3, fun _ => h2⟩⟩
  · exact ⟨⟨fun z => absurd z a0, fun z => by omega⟩, ⟨fun z => absurd z a0, fun z => by simp at z⟩⟩
theorem zAt_h {s : zT} {h : Nat} {a : zS} {l : List zS} (z : s.2 1 0 = 0) (q : zAt s h a l) : s.2 1 a = nI h := by
  rcases zAt_cases q with ⟨h1, h2, h3⟩ | ⟨a0, hl, hr, l1, l2, -, -, e, -, -, q6, -⟩
  · rw [h1, h2]
    exact z
  · exact q6
theorem zAt_mem {s : zT} {h : Nat} {a : zS} {l : List zS} (q : zAt s h a l) (a0 : a ≠ 0) : a ∈ l := by
  rcases zAt_cases q with ⟨h1, h2, h3⟩ | ⟨-, hl, hr, l1, l2, -, -, e, -, -, q6, rfl⟩
  · exact absurd h2 a0
  · exact List.mem_append_right _ List.mem_cons_self
theorem zAv_ne {s : zT} : ∀ {d h : Nat} {a : zS} {l : List zS}, zAv s d h a l → ∀ x ∈ l, x ≠ 0 := by
  intro d
  induction d with
  | zero => intro h a l q x hx; rw [q.2.2] at hx; cases hx
  | succ d ih =>
    intro h a l q x hx
    rcases q with q | ⟨a0, hl, hr, l1, l2, q1, q2, q3, q4, q5, q6, rfl⟩
    · rw [q.2.2] at hx; cases hx
    · rcases List.mem_append.mp hx with hx | hx
      · exact ih q1 x hx
      · rcases List.mem_cons.mp hx with rfl | hx
        · exact a0
        · exact ih q2 x hx
theorem zAt_ne {s : zT} {h : Nat} {a : zS} {l : List zS} (q : zAt s h a l) : ∀ x ∈ l, x ≠ 0 := by
  obtain ⟨d, q⟩ := q
  exact zAv_ne q
theorem zAv_len {s : zT} : ∀ {d h : Nat} {a : zS} {l : List zS}, zAv s d h a l → 2 ^ (h / 2) ≤ l.length + 1 := by
  intro d
  induction d with
  | zero => intro h a l q; rw [q.1]; simp
  | succ d ih =>
    intro h a l q
    rcases q with q | ⟨a0, hl, hr, l1, l2, q1, q2, q3, q4, q5, q6, rfl⟩
    · rw [q.1]; simp
    · have i1 := ih q1
      have i2 := ih q2
      have e : (l1 ++ a :: l2).length + 1 = (l1.length + 1) + (l2.length + 1) := by simp; omega
      rw [e]
      by_cases h1 : h = 1
      · rw [h1]
        simp
        omega
      · have k1 : 2 ^ (h / 2 - 1) ≤ 2 ^ (hl / 2) := Nat.pow_le_pow_right (by decide) (by omega)
        have k2 : 2 ^ (h / 2 - 1) ≤ 2 ^ (hr / 2) := Nat.pow_le_pow_right (by decide) (by omega)
        have k3 : 2 ^ (h / 2) = 2 ^ (h / 2 - 1) * 2 := by
          rw [← Nat.pow_succ]
          congr 1
          omega
        omega
/-- 2001 slots make no tree higher than 21 -/
theorem zAt_21 {s : zT} {h : Nat} {a : zS} {l : List zS} (q : zAt s h a l) (hl : l.length ≤ 2001) : h ≤ 21 := by
  obtain ⟨d, q⟩ := q
  have h1 := zAv_len q
  rcases Nat.lt_or_ge 21 h with h2 | h2
  · have h3 : 2 ^ 11 ≤ 2 ^ (h / 2) := Nat.pow_le_pow_right (by decide) (by omega)
    have h4 : (2 : Nat) ^ 11 = 2048 := by decide
    omega
  · exact h2
/-- by their keys in order -/
abbrev Srt (s : zT) (l : List zS) : Prop := l.Pairwise (fun x y : zS => s.2 0 x < s.2 0 y)
theorem i32_lt_irrefl (x : Int32) : ¬ x < x := by rw [Int32.lt_iff_toInt_lt]; omega
theorem Srt_node {s : zT} {l1 l2 : List zS} {a : zS} (h : Srt s (l1 ++ a :: l2)) : Srt s l1 ∧ Srt s l2 ∧ (∀ x ∈ l1, s.2 0 x < s.2 0 a) ∧ (∀ x ∈ l2, s.2 0 a < s.2 0 x) := by
  obtain ⟨h1, h2, h3⟩ := List.pairwise_append.mp h
  obtain ⟨h4, h5⟩ := List.pairwise_cons.mp h2
  exact ⟨h1, h5, fun x hx => h3 x hx a List.mem_cons_self, h4⟩
theorem find_spec {s : zT} {key : Int32} : ∀ {n h : Nat} {a : zS} {l : List zS}, zAt s h a l → Srt s l → h ≤ n → (∀ x ∈ l, s.2 0 x = key → mTr_find s key n a = x) ∧ ((∀ x ∈ l, ¬ s.2 0 x = key) → mTr_find s key n a = 0) := by
  intro n
  induction n with
  | zero =>
    intro h a l q _ hn
    have : l = [] := (zAt_0 q).2.mp ((zAt_0 q).1.mpr (by omega))
    rw [this]
    exact ⟨fun x hx => (by cases hx), fun _ => rfl⟩
  | succ n ih =>
    intro h a l q hs hn
    rcases zAt_cases q with ⟨h1, h2, h3⟩ | ⟨a0, hl, hr, l1, l2, q1, q2, e, -, -, q6, rfl⟩
    · rw [h3, mTr_find, if_pos h2]
      exact ⟨fun x hx => (by cases hx), fun _ => rfl⟩
    · obtain ⟨s1, s2, s3, s4⟩ := Srt_node hs
      rw [mTr_find, if_neg a0]
      by_cases hk : s.2 0 a = key
      · rw [if_pos hk]
        refine ⟨fun x hx hxk => ?_, fun hno => absurd hk (hno a (List.mem_append_right _ List.mem_cons_self))⟩
        rcases List.mem_append.mp hx with hx | hx
        · have w := s3 x hx
          rw [hxk, hk] at w
          exact absurd w (i32_lt_irrefl key)
        · rcases List.mem_cons.mp hx with rfl | hx
          · rfl
          · have w := s4 x hx
            rw [hxk, hk] at w
            exact absurd w (i32_lt_irrefl key)
      · rw [if_neg hk]
        by_cases hle : s.2 0 a ≤ key
        · rw [if_pos hle]
          obtain ⟨g1, g2⟩ := ih q2 s2 (by omega)
          refine ⟨fun x hx hxk => ?_, fun hno => g2 (fun x hx => hno x (List.mem_append_right _ (List.mem_cons_of_mem _ hx)))⟩
          rcases List.mem_append.mp hx with hx | hx
          · have := s3 x hx
            rw [hxk, Int32.lt_iff_toInt_lt] at this
            rw [Int32.le_iff_toInt_le] at hle
            omega
          · rcases List.mem_cons.mp hx with rfl | hx
            · exact absurd hxk hk
            · exact g1 x hx hxk
        · rw [if_neg hle]
          obtain ⟨g1, g2⟩ := ih q1 s1 (by omega)
          refine ⟨fun x hx hxk => ?_, fun hno => g2 (fun x hx => hno x (List.mem_append_left _ hx))⟩
          rcases List.mem_append.mp hx with hx | hx
          · exact g1 x hx hxk
          · rcases List.mem_cons.mp hx with rfl | hx
            · exact absurd hxk hk
            · have := s4 x hx
              rw [hxk, Int32.lt_iff_toInt_lt] at this
              rw [Int32.le_iff_toInt_le] at hle
              omega
theorem over_eq {s : zT} {a : zS} {hl hr : Nat} (e1 : s.2 1 (s.1 6 a) = nI hl) (e2 : s.2 1 (s.1 7 a) = nI hr) (b1 : hl < 2 ^ 30) (b2 : hr < 2 ^ 30) : mTr_over s a = nI (max hl hr + 1) := by
  unfold mTr_over
  rw [e1, e2]
  have c : ∀ n : Nat, 1 + nI n = nI (n + 1) := fun n => by rw [show (1 : Int32) = nI 1 from rfl, nI_add, Nat.add_comm]
  by_cases h : hl < hr
  · rw [if_pos ((nI_ltI (by omega) (by omega)).mpr h), c, show max hl hr = hr by omega]
  · rw [if_neg (fun q => h ((nI_ltI (by omega) (by omega)).mp q)), c, show max hl hr = hl by omega]
end
section
/-! BALANCE -/
theorem u1_at {s : zT} {r i x : Nat} {v : zS} : (u1 s r i v).1 r x = if x = i then v else s.1 r x := by rw [u1_eq]; rfl
theorem u2_at {s : zT} {r i x : Nat} {v : Int32} : (u2 s r i v).2 r x = if x = i then v else s.2 r x := by rw [u2_eq]; rfl
theorem u1_off {s : zT} {r i q x : Nat} {v : zS} (h : q ≠ r) : (u1 s r i v).1 q x = s.1 q x := by rw [u1_ne h]
theorem u2_off {s : zT} {r i q x : Nat} {v : Int32} (h : q ≠ r) : (u2 s r i v).2 q x = s.2 q x := by rw [u2_ne h]
theorem u1_2 {s : zT} {r i : Nat} {v : zS} : (u1 s r i v).2 = s.2 := rfl
theorem u2_1 {s : zT} {r i : Nat} {v : Int32} : (u2 s r i v).1 = s.1 := rfl
theorem dlt {a b : Nat} (ha : a < 2 ^ 20) (hb : b < 2 ^ 20) : nI a - nI b < -1 ↔ a + 1 < b := by
  rw [Int32.lt_iff_toInt_lt, pk_sub_toInt (by omega) (by omega), show (-1 : Int32).toInt = -1 by decide]
  omega
theorem dgt {a b : Nat} (ha : a < 2 ^ 20) (hb : b < 2 ^ 20) : 1 < nI a - nI b ↔ b + 1 < a := by
  rw [Int32.lt_iff_toInt_lt, pk_sub_toInt (by omega) (by omega), show (1 : Int32).toInt = 1 by decide]
  omega
theorem dle {a b : Nat} (ha : a < 2 ^ 20) (hb : b < 2 ^ 20) : nI a - nI b ≤ 1 ↔ a ≤ b + 1 := by
  rw [Int32.le_iff_toInt_le, pk_sub_toInt (by omega) (by omega), show (1 : Int32).toInt = 1 by decide]
  omega
/-- off the slots l the trees' rows are as they were -/
def so (s s' : zT) (l : List zS) : Prop := ∀ x : zS, x ∉ l → s'.1 6 x = s.1 6 x ∧ s'.1 7 x = s.1 7 x ∧ s'.2 1 x = s.2 1 x
theorem so_rf (s : zT) (l : List zS) : so s s l := fun _ _ => ⟨rfl, rfl, rfl⟩
theorem so.tr {a b c : zT} {l : List zS} (h : so a b l) (k : so b c l) : so a c l := fun x hx => ⟨(k x hx).1.trans (h x hx).1, (k x hx).2.1.trans (h x hx).2.1, (k x hx).2.2.trans (h x hx).2.2⟩
theorem so.wk {a b : zT} {l l' : List zS} (h : so a b l) (hl : ∀ x ∈ l, x ∈ l') : so a b l' := fun x hx => h x (fun q => hx (hl x q))
theorem zAt_so {s s' : zT} {l' : List zS} {h : Nat} {a : zS} {l : List zS} (k : so s s' l') (hd : ∀ x ∈ l, x ∉ l') (q : zAt s h a l) : zAt s' h a l := zAt_congr (fun x hx => k x (hd x hx)) q
/-- what balance answers: the tree holds the same, and is at most one lower -/
def balOk (s : zT) (l : List zS) (hl hr : Nat) (q : zS × zT) : Prop := ∃ h', zAt q.2 h' q.1 l ∧ (h' = max hl hr + 1 ∨ (h' = max hl hr ∧ (hl = hr + 2 ∨ hr = hl + 2))) ∧ so s q.2 l
theorem fne {x y : zS} (h : x ≠ y) : ¬ x.val = y.val := fun q => h (Fin.ext q)
theorem bal_0 {s : zT} {t : zS} {hl hr : Nat} {l1 l2 : List zS} (z : s.2 1 0 = 0) (t0 : t ≠ 0) (q1 : zAt s hl (s.1 6 t) l1) (q2 : zAt s hr (s.1 7 t) l2) (nd : (l1 ++ t :: l2).Nodup) (b1 : hl ≤ hr + 1) (b2 : hr ≤ hl + 1) (c1 : hl < 2 ^ 20) (c2 : hr < 2 ^ 20) :
    balOk s (l1 ++ t :: l2) hl hr (t, u2 s 1 t (mTr_over s t)) := by
  have e := over_eq (zAt_h z q1) (zAt_h z q2) (by omega) (by omega)
  have n1 : ∀ x ∈ l1, x ≠ t := fun x hx => (List.nodup_append.mp nd).2.2 x hx t List.mem_cons_self
  have n2 : ∀ x ∈ l2, x ≠ t := fun x hx q => (List.nodup_cons.mp (List.nodup_append.mp nd).2.1).1 (q ▸ hx)
  have g : ∀ x : zS, x ≠ t → (u2 s 1 t (mTr_over s t)).2 1 x = s.2 1 x := fun x hx => by rw [u2_at, if_neg (fne hx)]
  refine ⟨max hl hr + 1, zAt_node (zAt_congr (s := s) (fun x hx => ⟨rfl, rfl, g x (n1 x hx)⟩) q1) (zAt_congr (s := s) (fun x hx => ⟨rfl, rfl, g x (n2 x hx)⟩) q2) t0 b1 b2 rfl ?_ rfl, Or.inl rfl, fun x hx => ⟨rfl, rfl, g x (fun q => hx (by rw [q]; exact List.mem_append_right _ List.mem_cons_self))⟩⟩
  show (u2 s 1 t (mTr_over s t)).2 1 t = _
  rw [u2_at, if_pos rfl, e]
/-- a rotation whose rows are known: up over a (left) and b (right), heights set anew -/
theorem bal_up {s s2 : zT} {up a b : zS} {ha hb h1 h2 h3 h4 : Nat} {k1 k2 k3 k4 : List zS} {l : List zS} (z : s2.2 1 0 = 0) (u0 : up ≠ 0) (a0 : a ≠ 0) (b0 : b ≠ 0)
    (ea : s2.1 6 up = a) (eb : s2.1 7 up = b) (q1 : zAt s2 h1 (s2.1 6 a) k1) (q2 : zAt s2 h2 (s2.1 7 a) k2) (q3 : zAt s2 h3 (s2.1 6 b) k3) (q4 : zAt s2 h4 (s2.1 7 b) k4)
    (el : l = (k1 ++ a :: k2) ++ up :: (k3 ++ b :: k4)) (nd : l.Nodup) (eha : ha = max h1 h2 + 1) (ehb : hb = max h3 h4 + 1) (b1 : h1 ≤ h2 + 1) (b2 : h2 ≤ h1 + 1) (b3 : h3 ≤ h4 + 1) (b4 : h4 ≤ h3 + 1) (b5 : ha ≤ hb + 1) (b6 : hb ≤ ha + 1)
    (c1 : h1 < 2 ^ 20) (c2 : h2 < 2 ^ 20) (c3 : h3 < 2 ^ 20) (c4 : h4 < 2 ^ 20) (hso : so s s2 l) : zAt (mTr_bal2 (up, s2)).2 (max ha hb + 1) (mTr_bal2 (up, s2)).1 l ∧ so s (mTr_bal2 (up, s2)).2 l := by
  subst el
  obtain ⟨nL, nR, nX⟩ := List.nodup_append.mp nd
  obtain ⟨nU, nR'⟩ := List.nodup_cons.mp nR
  obtain ⟨nk1, nA, nX1⟩ := List.nodup_append.mp nL
  obtain ⟨nA1, nk2⟩ := List.nodup_cons.mp nA
  obtain ⟨nk3, nB, nX3⟩ := List.nodup_append.mp nR'
  obtain ⟨nB1, nk4⟩ := List.nodup_cons.mp nB
  have mA : a ∈ k1 ++ a :: k2 := List.mem_append_right _ List.mem_cons_self
  have mB : b ∈ k3 ++ b :: k4 := List.mem_append_right _ List.mem_cons_self
  have aU : a ≠ up := nX a mA up List.mem_cons_self
  have bU : b ≠ up := fun q => nU (q ▸ mB)
  have aB : a ≠ b := nX a mA b (List.mem_cons_of_mem _ mB)
  -- the three writes
  have e3 : mTr_over s2 a = nI ha := by rw [eha]; exact over_eq (zAt_h z q1) (zAt_h z q2) (by omega) (by omega)
  have d3 : ∀ x : zS, x ≠ a → (u2 s2 1 a (nI ha)).2 1 x = s2.2 1 x := fun x hx => by rw [u2_at, if_neg (fne hx)]
  have z3 : (u2 s2 1 a (nI ha)).2 1 0 = 0 := by rw [show ((u2 s2 1 a (nI ha)).2 1 0) = (u2 s2 1 a (nI ha)).2 1 (0 : zS).val from rfl, d3 0 a0.symm]; exact z
  have n3a : ∀ x ∈ k3, x ≠ a := fun x hx q => aB.symm (by exact absurd (nX a mA x (List.mem_cons_of_mem _ (List.mem_append_left _ hx))) (fun w => w q.symm))
  have n4a : ∀ x ∈ k4, x ≠ a := fun x hx q => by exact absurd (nX a mA x (List.mem_cons_of_mem _ (List.mem_append_right _ (List.mem_cons_of_mem _ hx)))) (fun w => w q.symm)
  have q3' : zAt (u2 s2 1 a (nI ha)) h3 (s2.1 6 b) k3 := zAt_congr (s := s2) (fun x hx => ⟨rfl, rfl, d3 x (n3a x hx)⟩) q3
  have q4' : zAt (u2 s2 1 a (nI ha)) h4 (s2.1 7 b) k4 := zAt_congr (s := s2) (fun x hx => ⟨rfl, rfl, d3 x (n4a x hx)⟩) q4
  have e4 : mTr_over (u2 s2 1 a (nI ha)) b = nI hb := by rw [ehb]; exact over_eq (zAt_h z3 q3') (zAt_h z3 q4') (by omega) (by omega)
  generalize hs4 : u2 (u2 s2 1 a (nI ha)) 1 b (nI hb) = s4
  have r4 : s4.1 = s2.1 := by rw [← hs4]; rfl
  have d4 : ∀ x : zS, x ≠ a → x ≠ b → s4.2 1 x = s2.2 1 x := fun x hx hy => by rw [← hs4, u2_at, if_neg (fne hy), d3 x hx]
  have d4a : s4.2 1 a = nI ha := by rw [← hs4, u2_at, if_neg (fne aB), u2_at, if_pos rfl]
  have d4b : s4.2 1 b = nI hb := by rw [← hs4, u2_at, if_pos rfl]
  have e5 : mTr_over s4 up = nI (max ha hb + 1) := over_eq (by rw [r4, ea]; exact d4a) (by rw [r4, eb]; exact d4b) (by omega) (by omega)
  have hbal : mTr_bal2 (up, s2) = (up, u2 s4 1 up (nI (max ha hb + 1))) := by
    unfold mTr_bal2
    try dsimp only
    rw [ea, e3, show (u2 s2 1 a.val (nI ha)).1 7 up.val = b from eb, e4, hs4, e5]
  rw [hbal]
  generalize hs5 : u2 s4 1 up (nI (max ha hb + 1)) = s5
  have r5 : s5.1 = s2.1 := by rw [← hs5]; exact r4
  have d5 : ∀ x : zS, x ≠ a → x ≠ b → x ≠ up → s5.2 1 x = s2.2 1 x := fun x hx hy hu => by rw [← hs5, u2_at, if_neg (fne hu), d4 x hx hy]
  have d5a : s5.2 1 a = nI ha := by rw [← hs5, u2_at, if_neg (fne aU), d4a]
  have d5b : s5.2 1 b = nI hb := by rw [← hs5, u2_at, if_neg (fne bU), d4b]
  have d5u : s5.2 1 up = nI (max ha hb + 1) := by rw [← hs5, u2_at, if_pos rfl]
  have cg : ∀ {h : Nat} {w : zS} {k : List zS}, (∀ x ∈ k, x ≠ a ∧ x ≠ b ∧ x ≠ up) → zAt s2 h w k → zAt s5 h w k := fun hk q => zAt_congr (fun x hx => ⟨by rw [r5], by rw [r5], d5 x (hk x hx).1 (hk x hx).2.1 (hk x hx).2.2⟩) q
  have m1 : ∀ x ∈ k1, x ≠ a ∧ x ≠ b ∧ x ≠ up := fun x hx => ⟨nX1 x hx a List.mem_cons_self, nX x (List.mem_append_left _ hx) b (List.mem_cons_of_mem _ mB), nX x (List.mem_append_left _ hx) up List.mem_cons_self⟩
  have m2 : ∀ x ∈ k2, x ≠ a ∧ x ≠ b ∧ x ≠ up := fun x hx => ⟨fun q => nA1 (q ▸ hx), nX x (List.mem_append_right _ (List.mem_cons_of_mem _ hx)) b (List.mem_cons_of_mem _ mB), nX x (List.mem_append_right _ (List.mem_cons_of_mem _ hx)) up List.mem_cons_self⟩
  have m3 : ∀ x ∈ k3, x ≠ a ∧ x ≠ b ∧ x ≠ up := fun x hx => ⟨n3a x hx, nX3 x hx b List.mem_cons_self, fun q => nU (q ▸ List.mem_append_left _ hx)⟩
  have m4 : ∀ x ∈ k4, x ≠ a ∧ x ≠ b ∧ x ≠ up := fun x hx => ⟨n4a x hx, fun q => nB1 (q ▸ hx), fun q => nU (q ▸ List.mem_append_right _ (List.mem_cons_of_mem _ hx))⟩
  have tA : zAt s5 ha (s5.1 6 up) (k1 ++ a :: k2) := by
    rw [r5, ea]
    exact zAt_node (by rw [r5]; exact cg m1 q1) (by rw [r5]; exact cg m2 q2) a0 b1 b2 eha d5a rfl
  have tB : zAt s5 hb (s5.1 7 up) (k3 ++ b :: k4) := by
    rw [r5, eb]
    exact zAt_node (by rw [r5]; exact cg m3 q3) (by rw [r5]; exact cg m4 q4) b0 b3 b4 ehb d5b rfl
  refine ⟨zAt_node tA tB u0 b5 b6 rfl d5u rfl, fun x hx => ?_⟩
  obtain ⟨g1, g2, g3⟩ := hso x hx
  have xa : x ≠ a := fun q => hx (by rw [q]; exact List.mem_append_left _ mA)
  have xb : x ≠ b := fun q => hx (by rw [q]; exact List.mem_append_right _ (List.mem_cons_of_mem _ mB))
  have xu : x ≠ up := fun q => hx (by rw [q]; exact List.mem_append_right _ List.mem_cons_self)
  exact ⟨by rw [r5]; exact g1, by rw [r5]; exact g2, (d5 x xa xb xu).trans g3⟩
theorem bal_L {s : zT} {t : zS} {hl hr : Nat} {l1 l2 : List zS} (z : s.2 1 0 = 0) (t0 : t ≠ 0) (q1 : zAt s hl (s.1 6 t) l1) (q2 : zAt s hr (s.1 7 t) l2) (nd : (l1 ++ t :: l2).Nodup) (b : hl = hr + 2) (c1 : hl < 2 ^ 20) :
    balOk s (l1 ++ t :: l2) hl hr (mTr_bal2 (mTr_liftL s t)) := by
  rcases zAt_cases q1 with ⟨h0, -, -⟩ | ⟨w0, ha, hb, la, lb, qa, qb, eh, x1, x2, -, rfl⟩
  · omega
  generalize hw : s.1 6 t.val = w at *
  obtain ⟨nL, nR, nX⟩ := List.nodup_append.mp nd
  have nT := (List.nodup_cons.mp nR).1
  obtain ⟨nla, nlb', nX1⟩ := List.nodup_append.mp nL
  have nW := (List.nodup_cons.mp nlb').1
  have wT : w ≠ t := nX w (List.mem_append_right _ List.mem_cons_self) t List.mem_cons_self
  have aT : ∀ x ∈ la, x ≠ t := fun x hx => nX x (List.mem_append_left _ hx) t List.mem_cons_self
  have bT : ∀ x ∈ lb, x ≠ t := fun x hx => nX x (List.mem_append_right _ (List.mem_cons_of_mem _ hx)) t List.mem_cons_self
  have aW : ∀ x ∈ la, x ≠ w := fun x hx => nX1 x hx w List.mem_cons_self
  have bW : ∀ x ∈ lb, x ≠ w := fun x hx q => nW (q ▸ hx)
  have l2T : ∀ x ∈ l2, x ≠ t := fun x hx q => nT (q ▸ hx)
  have l2W : ∀ x ∈ l2, x ≠ w := fun x hx q => nX w (List.mem_append_right _ List.mem_cons_self) x (List.mem_cons_of_mem _ hx) q.symm
  have hha := zAt_h z qa
  have hhb := zAt_h z qb
  by_cases hc : hb ≤ ha
  · -- one step up
    have e : mTr_liftL s t = (w, u1 (u1 s 6 t (s.1 7 w)) 7 w t) := by
      unfold mTr_liftL
      try dsimp only
      rw [hw, hha, hhb, if_pos (kn_le hc (by omega))]
    rw [e]
    generalize hs2 : u1 (u1 s 6 t (s.1 7 w)) 7 w t = s2
    have r6 : ∀ x : zS, s2.1 6 x = if x.val = t.val then s.1 7 w else s.1 6 x := fun x => by rw [← hs2, u1_off (by decide), u1_at]
    have r7 : ∀ x : zS, s2.1 7 x = if x.val = w.val then t else s.1 7 x := fun x => by rw [← hs2, u1_at, u1_off (by decide)]
    have rh : s2.2 = s.2 := by rw [← hs2]; rfl
    have cg : ∀ {h : Nat} {v : zS} {k : List zS}, (∀ x ∈ k, x ≠ t ∧ x ≠ w) → zAt s h v k → zAt s2 h v k := fun hk q => zAt_congr (fun x hx => ⟨by rw [r6, if_neg (fne (hk x hx).1)], by rw [r7, if_neg (fne (hk x hx).2)], by rw [rh]⟩) q
    rcases zAt_cases qa with ⟨h0, -, -⟩ | ⟨a0, h1, h2, k1, k2, p1, p2, ea, y1, y2, -, rfl⟩
    · omega
    generalize hA : s.1 6 w.val = A at *
    have mA : A ∈ k1 ++ A :: k2 := List.mem_append_right _ List.mem_cons_self
    have el : ((k1 ++ A :: k2) ++ w :: lb) ++ t :: l2 = (k1 ++ A :: k2) ++ w :: (lb ++ t :: l2) := by simp
    rw [el] at nd ⊢
    have hso : so s s2 ((k1 ++ A :: k2) ++ w :: (lb ++ t :: l2)) := fun x hx => ⟨by rw [r6, if_neg (fne (fun q => hx (by rw [q]; exact List.mem_append_right _ (List.mem_cons_of_mem _ (List.mem_append_right _ List.mem_cons_self)))))], by rw [r7, if_neg (fne (fun q => hx (by rw [q]; exact List.mem_append_right _ List.mem_cons_self)))], by rw [rh]⟩
    obtain ⟨g1, g2⟩ := bal_up (s := s) (s2 := s2) (up := w) (a := A) (b := t) (ha := ha) (hb := max hb hr + 1) (by rw [rh]; exact z) w0 a0 t0 (by rw [r6, if_neg (fne wT)]; exact hA) (by rw [r7, if_pos rfl])
      (by rw [r6, if_neg (fne (aT A mA))]; exact cg (fun x hx => ⟨aT x (List.mem_append_left _ hx), aW x (List.mem_append_left _ hx)⟩) p1)
      (by rw [r7, if_neg (fne (aW A mA))]; exact cg (fun x hx => ⟨aT x (List.mem_append_right _ (List.mem_cons_of_mem _ hx)), aW x (List.mem_append_right _ (List.mem_cons_of_mem _ hx))⟩) p2)
      (by rw [r6, if_pos rfl]; exact cg (fun x hx => ⟨bT x hx, bW x hx⟩) qb)
      (by rw [r7, if_neg (fne wT.symm)]; exact cg (fun x hx => ⟨l2T x hx, l2W x hx⟩) q2)
      rfl nd ea rfl y1 y2 (by omega) (by omega) (by omega) (by omega) (by omega) (by omega) (by omega) (by omega) hso
    exact ⟨_, g1, by omega, g2⟩
  · -- two steps up
    rcases zAt_cases qb with ⟨h0, -, -⟩ | ⟨u0, h2, h3, k2, k3, p2, p3, eb, y1, y2, -, rfl⟩
    · omega
    generalize hu : s.1 7 w.val = up at *
    have e : mTr_liftL s t = (up, u1 (u1 (u1 (u1 s 7 w (s.1 6 up)) 6 up w) 6 t (s.1 7 up)) 7 up t) := by
      have mU0 : up ∈ k2 ++ up :: k3 := List.mem_append_right _ List.mem_cons_self
      unfold mTr_liftL
      try dsimp only
      rw [hw, hu, hha, hhb, if_neg (kn_nle (by omega) (by omega))]
      have x1 : (u1 (u1 s 7 w.val (s.1 6 up)) 6 up.val w).1 7 up.val = s.1 7 up := by rw [u1_off (by decide), u1_at, if_neg (fne (bW up mU0))]
      rw [x1]
    have mU : up ∈ k2 ++ up :: k3 := List.mem_append_right _ List.mem_cons_self
    have uT := bT up mU
    have uW := bW up mU
    rw [e]
    generalize hs2 : u1 (u1 (u1 (u1 s 7 w (s.1 6 up)) 6 up w) 6 t (s.1 7 up)) 7 up t = s2
    have r6 : ∀ x : zS, s2.1 6 x = if x.val = t.val then s.1 7 up else if x.val = up.val then w else s.1 6 x := fun x => by rw [← hs2, u1_off (by decide), u1_at, u1_at, u1_off (by decide)]
    have r7 : ∀ x : zS, s2.1 7 x = if x.val = up.val then t else if x.val = w.val then s.1 6 up else s.1 7 x := fun x => by rw [← hs2, u1_at, u1_off (by decide), u1_off (by decide), u1_at]
    have rh : s2.2 = s.2 := by rw [← hs2]; rfl
    have nlb := (List.nodup_cons.mp nlb').2
    obtain ⟨-, nU', nX2⟩ := List.nodup_append.mp nlb
    have nU := (List.nodup_cons.mp nU').1
    have cg : ∀ {h : Nat} {v : zS} {k : List zS}, (∀ x ∈ k, x ≠ t ∧ x ≠ w ∧ x ≠ up) → zAt s h v k → zAt s2 h v k := fun hk q => zAt_congr (fun x hx => ⟨by rw [r6, if_neg (fne (hk x hx).1), if_neg (fne (hk x hx).2.2)], by rw [r7, if_neg (fne (hk x hx).2.2), if_neg (fne (hk x hx).2.1)], by rw [rh]⟩) q
    have el : (la ++ w :: (k2 ++ up :: k3)) ++ t :: l2 = (la ++ w :: k2) ++ up :: (k3 ++ t :: l2) := by simp
    have laU : ∀ x ∈ la, x ≠ up := fun x hx => nX1 x hx up (List.mem_cons_of_mem _ mU)
    have l2U : ∀ x ∈ l2, x ≠ up := fun x hx q => nX up (List.mem_append_right _ (List.mem_cons_of_mem _ mU)) x (List.mem_cons_of_mem _ hx) q.symm
    rw [el] at nd ⊢
    have hso : so s s2 ((la ++ w :: k2) ++ up :: (k3 ++ t :: l2)) := fun x hx => by
      have xt : x ≠ t := fun q => hx (by rw [q]; exact List.mem_append_right _ (List.mem_cons_of_mem _ (List.mem_append_right _ List.mem_cons_self)))
      have xw : x ≠ w := fun q => hx (by rw [q]; exact List.mem_append_left _ (List.mem_append_right _ List.mem_cons_self))
      have xu : x ≠ up := fun q => hx (by rw [q]; exact List.mem_append_right _ List.mem_cons_self)
      exact ⟨by rw [r6, if_neg (fne xt), if_neg (fne xu)], by rw [r7, if_neg (fne xu), if_neg (fne xw)], by rw [rh]⟩
    obtain ⟨g1, g2⟩ := bal_up (s := s) (s2 := s2) (up := up) (a := w) (b := t) (ha := max ha h2 + 1) (hb := max h3 hr + 1) (by rw [rh]; exact z) u0 w0 t0 (by rw [r6, if_neg (fne uT), if_pos rfl]) (by rw [r7, if_pos rfl])
      (by rw [r6, if_neg (fne wT), if_neg (fne uW.symm)]; exact cg (fun x hx => ⟨aT x hx, aW x hx, laU x hx⟩) qa)
      (by rw [r7, if_neg (fne uW.symm), if_pos rfl]; exact cg (fun x hx => ⟨bT x (List.mem_append_left _ hx), bW x (List.mem_append_left _ hx), nX2 x hx up List.mem_cons_self⟩) p2)
      (by rw [r6, if_pos rfl]; exact cg (fun x hx => ⟨bT x (List.mem_append_right _ (List.mem_cons_of_mem _ hx)), bW x (List.mem_append_right _ (List.mem_cons_of_mem _ hx)), fun q => nU (q ▸ hx)⟩) p3)
      (by rw [r7, if_neg (fne uT.symm), if_neg (fne wT.symm)]; exact cg (fun x hx => ⟨l2T x hx, l2W x hx, l2U x hx⟩) q2)
      rfl nd rfl rfl (by omega) (by omega) (by omega) (by omega) (by omega) (by omega) (by omega) (by omega) (by omega) (by omega) hso
    exact ⟨_, g1, by omega, g2⟩
theorem bal_R {s : zT} {t : zS} {hl hr : Nat} {l1 l2 : List zS} (z : s.2 1 0 = 0) (t0 : t ≠ 0) (q1 : zAt s hl (s.1 6 t) l1) (q2 : zAt s hr (s.1 7 t) l2) (nd : (l1 ++ t :: l2).Nodup) (b : hr = hl + 2) (c1 : hr < 2 ^ 20) :
    balOk s (l1 ++ t :: l2) hl hr (mTr_bal2 (mTr_liftR s t)) := by
  rcases zAt_cases q2 with ⟨h0, -, -⟩ | ⟨w0, hb, ha, lb, la, qb, qa, eh, x1, x2, -, rfl⟩
  · omega
  generalize hw : s.1 7 t.val = w at *
  obtain ⟨nL, nR, nX⟩ := List.nodup_append.mp nd
  obtain ⟨nT, nR'⟩ := List.nodup_cons.mp nR
  obtain ⟨nlb, nla', nX1⟩ := List.nodup_append.mp nR'
  have nW := (List.nodup_cons.mp nla').1
  have mW : w ∈ lb ++ w :: la := List.mem_append_right _ List.mem_cons_self
  have wT : w ≠ t := fun q => nT (q ▸ mW)
  have aT : ∀ x ∈ la, x ≠ t := fun x hx q => nT (q ▸ List.mem_append_right _ (List.mem_cons_of_mem _ hx))
  have bT : ∀ x ∈ lb, x ≠ t := fun x hx q => nT (q ▸ List.mem_append_left _ hx)
  have aW : ∀ x ∈ la, x ≠ w := fun x hx q => nW (q ▸ hx)
  have bW : ∀ x ∈ lb, x ≠ w := fun x hx => nX1 x hx w List.mem_cons_self
  have l1T : ∀ x ∈ l1, x ≠ t := fun x hx => nX x hx t List.mem_cons_self
  have l1W : ∀ x ∈ l1, x ≠ w := fun x hx => nX x hx w (List.mem_cons_of_mem _ mW)
  have hha := zAt_h z qa
  have hhb := zAt_h z qb
  by_cases hc : hb ≤ ha
  · have e : mTr_liftR s t = (w, u1 (u1 s 7 t (s.1 6 w)) 6 w t) := by
      unfold mTr_liftR
      try dsimp only
      rw [hw, hha, hhb, if_pos (kn_le hc (by omega))]
    rw [e]
    generalize hs2 : u1 (u1 s 7 t (s.1 6 w)) 6 w t = s2
    have r7 : ∀ x : zS, s2.1 7 x = if x.val = t.val then s.1 6 w else s.1 7 x := fun x => by rw [← hs2, u1_off (by decide), u1_at]
    have r6 : ∀ x : zS, s2.1 6 x = if x.val = w.val then t else s.1 6 x := fun x => by rw [← hs2, u1_at, u1_off (by decide)]
    have rh : s2.2 = s.2 := by rw [← hs2]; rfl
    have cg : ∀ {h : Nat} {v : zS} {k : List zS}, (∀ x ∈ k, x ≠ t ∧ x ≠ w) → zAt s h v k → zAt s2 h v k := fun hk q => zAt_congr (fun x hx => ⟨by rw [r6, if_neg (fne (hk x hx).2)], by rw [r7, if_neg (fne (hk x hx).1)], by rw [rh]⟩) q
    rcases zAt_cases qa with ⟨h0, -, -⟩ | ⟨a0, h3, h4, k3, k4, p3, p4, ea, y1, y2, -, rfl⟩
    · omega
    generalize hA : s.1 7 w.val = A at *
    have mA : A ∈ k3 ++ A :: k4 := List.mem_append_right _ List.mem_cons_self
    have el : l1 ++ t :: (lb ++ w :: (k3 ++ A :: k4)) = (l1 ++ t :: lb) ++ w :: (k3 ++ A :: k4) := by simp
    rw [el] at nd ⊢
    have hso : so s s2 ((l1 ++ t :: lb) ++ w :: (k3 ++ A :: k4)) := fun x hx => ⟨by rw [r6, if_neg (fne (fun q => hx (by rw [q]; exact List.mem_append_right _ List.mem_cons_self)))], by rw [r7, if_neg (fne (fun q => hx (by rw [q]; exact List.mem_append_left _ (List.mem_append_right _ List.mem_cons_self))))], by rw [rh]⟩
    obtain ⟨g1, g2⟩ := bal_up (s := s) (s2 := s2) (up := w) (a := t) (b := A) (ha := max hl hb + 1) (hb := ha) (by rw [rh]; exact z) w0 t0 a0 (by rw [r6, if_pos rfl]) (by rw [r7, if_neg (fne wT)]; exact hA)
      (by rw [r6, if_neg (fne wT.symm)]; exact cg (fun x hx => ⟨l1T x hx, l1W x hx⟩) q1)
      (by rw [r7, if_pos rfl]; exact cg (fun x hx => ⟨bT x hx, bW x hx⟩) qb)
      (by rw [r6, if_neg (fne (aW A mA))]; exact cg (fun x hx => ⟨aT x (List.mem_append_left _ hx), aW x (List.mem_append_left _ hx)⟩) p3)
      (by rw [r7, if_neg (fne (aT A mA))]; exact cg (fun x hx => ⟨aT x (List.mem_append_right _ (List.mem_cons_of_mem _ hx)), aW x (List.mem_append_right _ (List.mem_cons_of_mem _ hx))⟩) p4)
      rfl nd rfl ea (by omega) (by omega) y1 y2 (by omega) (by omega) (by omega) (by omega) (by omega) (by omega) hso
    exact ⟨_, g1, by omega, g2⟩
  · rcases zAt_cases qb with ⟨h0, -, -⟩ | ⟨u0, h2, h3, k2, k3, p2, p3, eb, y1, y2, -, rfl⟩
    · omega
    generalize hu : s.1 6 w.val = up at *
    have mU : up ∈ k2 ++ up :: k3 := List.mem_append_right _ List.mem_cons_self
    have uT := bT up mU
    have uW := bW up mU
    have e : mTr_liftR s t = (up, u1 (u1 (u1 (u1 s 6 w (s.1 7 up)) 7 up w) 7 t (s.1 6 up)) 6 up t) := by
      unfold mTr_liftR
      try dsimp only
      rw [hw, hu, hha, hhb, if_neg (kn_nle (by omega) (by omega))]
      have x1 : (u1 (u1 s 6 w.val (s.1 7 up)) 7 up.val w).1 6 up.val = s.1 6 up := by rw [u1_off (by decide), u1_at, if_neg (fne uW)]
      rw [x1]
    rw [e]
    generalize hs2 : u1 (u1 (u1 (u1 s 6 w (s.1 7 up)) 7 up w) 7 t (s.1 6 up)) 6 up t = s2
    have r7 : ∀ x : zS, s2.1 7 x = if x.val = t.val then s.1 6 up else if x.val = up.val then w else s.1 7 x := fun x => by rw [← hs2, u1_off (by decide), u1_at, u1_at, u1_off (by decide)]
    have r6 : ∀ x : zS, s2.1 6 x = if x.val = up.val then t else if x.val = w.val then s.1 7 up else s.1 6 x := fun x => by rw [← hs2, u1_at, u1_off (by decide), u1_off (by decide), u1_at]
    have rh : s2.2 = s.2 := by rw [← hs2]; rfl
    obtain ⟨-, nU', nX2⟩ := List.nodup_append.mp nlb
    have nU := (List.nodup_cons.mp nU').1
    have cg : ∀ {h : Nat} {v : zS} {k : List zS}, (∀ x ∈ k, x ≠ t ∧ x ≠ w ∧ x ≠ up) → zAt s h v k → zAt s2 h v k := fun hk q => zAt_congr (fun x hx => ⟨by rw [r6, if_neg (fne (hk x hx).2.2), if_neg (fne (hk x hx).2.1)], by rw [r7, if_neg (fne (hk x hx).1), if_neg (fne (hk x hx).2.2)], by rw [rh]⟩) q
    have el : l1 ++ t :: ((k2 ++ up :: k3) ++ w :: la) = (l1 ++ t :: k2) ++ up :: (k3 ++ w :: la) := by simp
    have laU : ∀ x ∈ la, x ≠ up := fun x hx q => nX1 up mU x (List.mem_cons_of_mem _ hx) q.symm
    have l1U : ∀ x ∈ l1, x ≠ up := fun x hx => nX x hx up (List.mem_cons_of_mem _ (List.mem_append_left _ mU))
    rw [el] at nd ⊢
    have hso : so s s2 ((l1 ++ t :: k2) ++ up :: (k3 ++ w :: la)) := fun x hx => by
      have xt : x ≠ t := fun q => hx (by rw [q]; exact List.mem_append_left _ (List.mem_append_right _ List.mem_cons_self))
      have xw : x ≠ w := fun q => hx (by rw [q]; exact List.mem_append_right _ (List.mem_cons_of_mem _ (List.mem_append_right _ List.mem_cons_self)))
      have xu : x ≠ up := fun q => hx (by rw [q]; exact List.mem_append_right _ List.mem_cons_self)
      exact ⟨by rw [r6, if_neg (fne xu), if_neg (fne xw)], by rw [r7, if_neg (fne xt), if_neg (fne xu)], by rw [rh]⟩
    obtain ⟨g1, g2⟩ := bal_up (s := s) (s2 := s2) (up := up) (a := t) (b := w) (ha := max hl h2 + 1) (hb := max h3 ha + 1) (by rw [rh]; exact z) u0 t0 w0 (by rw [r6, if_pos rfl]) (by rw [r7, if_neg (fne uT), if_pos rfl])
      (by rw [r6, if_neg (fne uT.symm), if_neg (fne wT.symm)]; exact cg (fun x hx => ⟨l1T x hx, l1W x hx, l1U x hx⟩) q1)
      (by rw [r7, if_pos rfl]; exact cg (fun x hx => ⟨bT x (List.mem_append_left _ hx), bW x (List.mem_append_left _ hx), nX2 x hx up List.mem_cons_self⟩) p2)
      (by rw [r6, if_neg (fne uW.symm), if_pos rfl]; exact cg (fun x hx => ⟨bT x (List.mem_append_right _ (List.mem_cons_of_mem _ hx)), bW x (List.mem_append_right _ (List.mem_cons_of_mem _ hx)), fun q => nU (q ▸ hx)⟩) p3)
      (by rw [r7, if_neg (fne wT), if_neg (fne uW.symm)]; exact cg (fun x hx => ⟨aT x hx, aW x hx, laU x hx⟩) qa)
      rfl nd rfl rfl (by omega) (by omega) (by omega) (by omega) (by omega) (by omega) (by omega) (by omega) (by omega) (by omega) hso
    exact ⟨_, g1, by omega, g2⟩
/-- BALANCE: both sides of t are balanced and differ by at most two -/
theorem bal_spec {s : zT} {t : zS} {hl hr : Nat} {l1 l2 : List zS} (z : s.2 1 0 = 0) (t0 : t ≠ 0) (q1 : zAt s hl (s.1 6 t) l1) (q2 : zAt s hr (s.1 7 t) l2) (nd : (l1 ++ t :: l2).Nodup) (b1 : hl ≤ hr + 2) (b2 : hr ≤ hl + 2) (c1 : hl < 2 ^ 20) (c2 : hr < 2 ^ 20) :
    balOk s (l1 ++ t :: l2) hl hr (mTr_bal s t) := by
  unfold mTr_bal
  try dsimp only
  rw [zAt_h z q1, zAt_h z q2]
  by_cases h1 : hl + 1 < hr
  · rw [if_pos ((dlt c1 c2).mpr h1), if_pos ((dle c1 c2).mpr (by omega))]
    exact bal_R z t0 q1 q2 nd (by omega) c2
  · rw [if_neg (fun q => h1 ((dlt c1 c2).mp q))]
    by_cases h2 : hr + 1 < hl
    · rw [if_pos ((dgt c1 c2).mpr h2), if_neg (fun q => by have := (dle c1 c2).mp q; omega)]
      exact bal_L z t0 q1 q2 nd (by omega) c1
    · rw [if_neg (fun q => h2 ((dgt c1 c2).mp q))]
      exact bal_0 z t0 q1 q2 nd (by omega) (by omega) c1 c2
end
section
/-! THE PATH: Zp s key n h lb la: the first n slots of the path lead down, by the key, to where a tree h high hangs; lb lies left of it, la right of it -/
def Zp (s : zT) (key : Int32) : Nat → Nat → List zS → List zS → Prop
  | 0, _, lb, la => lb = [] ∧ la = []
  | n + 1, h, lb, la => s.1 8 n ≠ 0 ∧ ∃ (ho : Nat) (lo lb' la' : List zS), ho ≤ h + 1 ∧ h ≤ ho + 1 ∧ Zp s key n (max h ho + 1) lb' la' ∧
    ((s.2 0 (s.1 8 n) ≤ key ∧ zAt s ho (s.1 6 (s.1 8 n)) lo ∧ lb = lb' ++ (lo ++ [s.1 8 n]) ∧ la = la') ∨ (¬ s.2 0 (s.1 8 n) ≤ key ∧ zAt s ho (s.1 7 (s.1 8 n)) lo ∧ lb = lb' ∧ la = s.1 8 n :: (lo ++ la')))
theorem Zp_congr {s s' : zT} {key : Int32} {l' : List zS} (hk : s'.2 0 = s.2 0) (k : so s s' l') : ∀ {n h : Nat} {lb la : List zS}, (∀ i, i < n → s'.1 8 i = s.1 8 i) → (∀ x ∈ lb, x ∉ l') → (∀ x ∈ la, x ∉ l') → Zp s key n h lb la → Zp s' key n h lb la := by
  intro n
  induction n with
  | zero => intro h lb la _ _ _ q; exact q
  | succ n ih =>
    intro h lb la h8 hb ha q
    obtain ⟨u0, ho, lo, lb', la', b1, b2, qz, qq⟩ := q
    have e8 := h8 n (Nat.lt_succ_self n)
    rcases qq with ⟨c, qt, rfl, rfl⟩ | ⟨c, qt, rfl, rfl⟩
    · have mu : s.1 8 n ∈ lb' ++ (lo ++ [s.1 8 n]) := List.mem_append_right _ (List.mem_append_right _ List.mem_cons_self)
      obtain ⟨g6, g7, gh⟩ := k _ (hb _ mu)
      refine ⟨by rw [e8]; exact u0, ho, lo, lb', la, b1, b2, ih (fun i hi => h8 i (Nat.lt_succ_of_lt hi)) (fun x hx => hb x (List.mem_append_left _ hx)) ha qz, Or.inl ⟨by rw [e8, hk]; exact c, ?_, by rw [e8], rfl⟩⟩
      rw [e8, g6]
      exact zAt_so k (fun x hx => hb x (List.mem_append_right _ (List.mem_append_left _ hx))) qt
    · have mu : s.1 8 n ∈ s.1 8 n :: (lo ++ la') := List.mem_cons_self
      obtain ⟨g6, g7, gh⟩ := k _ (ha _ mu)
      refine ⟨by rw [e8]; exact u0, ho, lo, lb, la', b1, b2, ih (fun i hi => h8 i (Nat.lt_succ_of_lt hi)) hb (fun x hx => ha x (List.mem_cons_of_mem _ (List.mem_append_right _ hx))) qz, Or.inr ⟨by rw [e8, hk]; exact c, ?_, rfl, by rw [e8]⟩⟩
      rw [e8, g7]
      exact zAt_so k (fun x hx => ha x (List.mem_cons_of_mem _ (List.mem_append_left _ hx))) qt
theorem tk_8eq {s : zT} {t : zS} : (mTr_bal s t).2.1 8 = s.1 8 := by
  have l1 : (mTr_liftL s t).2.1 8 = s.1 8 := by
    unfold mTr_liftL
    try dsimp only
    split <;> rfl
  have l2 : (mTr_liftR s t).2.1 8 = s.1 8 := by
    unfold mTr_liftR
    try dsimp only
    split <;> rfl
  unfold mTr_bal
  try dsimp only
  split
  · split
    · exact l2
    · exact l1
  · split
    · split
      · exact l2
      · exact l1
    · rfl
theorem climb_spec {key : Int32} : ∀ {n h h2 : Nat} {lb la lt : List zS} {t : zS} {s : zT}, s.2 1 0 = 0 → Zp s key n h lb la → zAt s h2 t lt → h2 ≤ h + 1 → h ≤ h2 + 1 → (lb ++ (lt ++ la)).Nodup → (lb ++ (lt ++ la)).length ≤ 2001 → (∀ x ∈ lb, x ≠ 0) → (∀ x ∈ la, x ≠ 0) →
    ∃ h', zAt (mTr_climb key n t s).2 h' (mTr_climb key n t s).1 (lb ++ (lt ++ la)) ∧ so s (mTr_climb key n t s).2 (lb ++ (lt ++ la)) := by
  intro n
  induction n with
  | zero =>
    intro h h2 lb la lt t s _ qz qt _ _ _ _ _ _
    obtain ⟨rfl, rfl⟩ := qz
    exact ⟨h2, by rw [List.nil_append, List.append_nil]; exact qt, so_rf _ _⟩
  | succ n ih =>
    intro h h2 lb la lt t s z qz qt b1 b2 nd hlen nb na
    obtain ⟨u0, ho, lo, lb', la', c1, c2, qz, qq⟩ := qz
    have hlt : h2 ≤ 21 := zAt_21 qt (by simp at hlen; omega)
    have nt : ∀ x ∈ lt, x ≠ 0 := zAt_ne qt
    rcases qq with ⟨c, qo, rfl, rfl⟩ | ⟨c, qo, rfl, rfl⟩
    · generalize hup : s.1 8 n = up at *
      have el : (lb' ++ (lo ++ [up])) ++ (lt ++ la) = lb' ++ ((lo ++ up :: lt) ++ la) := by simp
      rw [el] at nd hlen ⊢
      obtain ⟨n1, n2, nX⟩ := List.nodup_append.mp nd
      obtain ⟨n3, n4, nY⟩ := List.nodup_append.mp n2
      obtain ⟨n5, n6, nZ⟩ := List.nodup_append.mp n3
      have uo : ∀ x ∈ lo, x ≠ up := fun x hx => nZ x hx up List.mem_cons_self
      have ut : ∀ x ∈ lt, x ≠ up := fun x hx q => (List.nodup_cons.mp n6).1 (q ▸ hx)
      have hlo : ho ≤ 21 := zAt_21 qo (by simp at hlen; omega)
      have cg : ∀ {h : Nat} {v : zS} {k : List zS}, (∀ x ∈ k, x ≠ up) → zAt s h v k → zAt (u1 s 7 up t) h v k := fun hk q => zAt_congr (fun x hx => ⟨u1_off (by decide), by rw [u1_at, if_neg (fne (hk x hx))], rfl⟩) q
      have so1 : so s (u1 s 7 up t) (lo ++ up :: lt) := fun x hx => ⟨u1_off (by decide), by rw [u1_at, if_neg (fne (fun q => hx (by rw [q]; exact List.mem_append_right _ List.mem_cons_self)))], rfl⟩
      obtain ⟨h', g1, g2, g3⟩ := bal_spec (s := u1 s 7 up t) (t := up) (hl := ho) (hr := h2) (l1 := lo) (l2 := lt) z u0 (by rw [u1_off (by decide)]; exact cg uo qo) (by rw [u1_at, if_pos rfl]; exact cg ut qt) n3 (by omega) (by omega) (by omega) (by omega)
      have so2 := so1.tr g3
      have etk := (tk_7 s up.val t).tr (tk_bal (u1 s 7 up t) up)
      have e8 : ∀ i, i < n → (mTr_bal (u1 s 7 up t) up).2.1 8 i = s.1 8 i := fun i _ => by rw [tk_8eq]; rfl
      have z' : (mTr_bal (u1 s 7 up t) up).2.2 1 0 = 0 := by
        have := (so2 0 (fun q => by
          rcases List.mem_append.mp q with q | q
          · exact zAt_ne qo 0 q rfl
          · rcases List.mem_cons.mp q with q | q
            · exact u0 q.symm
            · exact nt 0 q rfl)).2.2
        exact this.trans z
      have qz' := Zp_congr (etk.1 0 (by decide)) so2 e8 (fun x hx q => nX x hx x (List.mem_append_left _ q) rfl) (fun x hx q => nY x q x hx rfl) qz
      obtain ⟨h'', k1, k2⟩ := ih z' qz' g1 (by omega) (by omega) nd hlen (fun x hx => nb x (List.mem_append_left _ hx)) na
      have em : mTr_climb key (n + 1) t s = mTr_climb key n (mTr_bal (u1 s 7 up t) up).1 (mTr_bal (u1 s 7 up t) up).2 := by
        rw [mTr_climb]
        try dsimp only
        rw [hup, if_pos c]
      rw [em]
      exact ⟨h'', k1, (so2.wk (fun x hx => List.mem_append_right _ (List.mem_append_left _ hx))).tr k2⟩
    · generalize hup : s.1 8 n = up at *
      have el : lb ++ (lt ++ up :: (lo ++ la')) = lb ++ ((lt ++ up :: lo) ++ la') := by simp
      rw [el] at nd hlen ⊢
      obtain ⟨n1, n2, nX⟩ := List.nodup_append.mp nd
      obtain ⟨n3, n4, nY⟩ := List.nodup_append.mp n2
      obtain ⟨n5, n6, nZ⟩ := List.nodup_append.mp n3
      have ut : ∀ x ∈ lt, x ≠ up := fun x hx => nZ x hx up List.mem_cons_self
      have uo : ∀ x ∈ lo, x ≠ up := fun x hx q => (List.nodup_cons.mp n6).1 (q ▸ hx)
      have hlo : ho ≤ 21 := zAt_21 qo (by simp at hlen; omega)
      have cg : ∀ {h : Nat} {v : zS} {k : List zS}, (∀ x ∈ k, x ≠ up) → zAt s h v k → zAt (u1 s 6 up t) h v k := fun hk q => zAt_congr (fun x hx => ⟨by rw [u1_at, if_neg (fne (hk x hx))], u1_off (by decide), rfl⟩) q
      have so1 : so s (u1 s 6 up t) (lt ++ up :: lo) := fun x hx => ⟨by rw [u1_at, if_neg (fne (fun q => hx (by rw [q]; exact List.mem_append_right _ List.mem_cons_self)))], u1_off (by decide), rfl⟩
      obtain ⟨h', g1, g2, g3⟩ := bal_spec (s := u1 s 6 up t) (t := up) (hl := h2) (hr := ho) (l1 := lt) (l2 := lo) z u0 (by rw [u1_at, if_pos rfl]; exact cg ut qt) (by rw [u1_off (by decide)]; exact cg uo qo) n3 (by omega) (by omega) (by omega) (by omega)
      have so2 := so1.tr g3
      have etk := (tk_6 s up.val t).tr (tk_bal (u1 s 6 up t) up)
      have e8 : ∀ i, i < n → (mTr_bal (u1 s 6 up t) up).2.1 8 i = s.1 8 i := fun i _ => by rw [tk_8eq]; rfl
      have z' : (mTr_bal (u1 s 6 up t) up).2.2 1 0 = 0 := by
        have := (so2 0 (fun q => by
          rcases List.mem_append.mp q with q | q
          · exact nt 0 q rfl
          · rcases List.mem_cons.mp q with q | q
            · exact u0 q.symm
            · exact zAt_ne qo 0 q rfl)).2.2
        exact this.trans z
      have qz' := Zp_congr (etk.1 0 (by decide)) so2 e8 (fun x hx q => nX x hx x (List.mem_append_left _ q) rfl) (fun x hx q => nY x q x hx rfl) qz
      obtain ⟨h'', k1, k2⟩ := ih z' qz' g1 (by omega) (by omega) nd hlen nb (fun x hx => na x (List.mem_cons_of_mem _ (List.mem_append_right _ hx)))
      have em : mTr_climb key (n + 1) t s = mTr_climb key n (mTr_bal (u1 s 6 up t) up).1 (mTr_bal (u1 s 6 up t) up).2 := by
        rw [mTr_climb]
        try dsimp only
        rw [hup, if_neg c]
      rw [em]
      exact ⟨h'', k1, (so2.wk (fun x hx => List.mem_append_right _ (List.mem_append_left _ hx))).tr k2⟩
end
section
/-! DOWN THE TREE -/
theorem so_8 (s : zT) (i : Nat) (v : zS) : so s (u1 s 8 i v) [] := fun _ _ => ⟨u1_off (by decide), u1_off (by decide), rfl⟩
theorem zAt_8 {s : zT} {i h : Nat} {v a : zS} {l : List zS} (q : zAt s h a l) : zAt (u1 s 8 i v) h a l := zAt_so (so_8 s i v) (fun _ _ q => by cases q) q
theorem Zp_8 {s : zT} {key : Int32} {d h : Nat} {v : zS} {lb la : List zS} (q : Zp s key d h lb la) : Zp (u1 s 8 d v) key d h lb la :=
  Zp_congr (s := s) (s' := u1 s 8 d v) rfl (so_8 s d v) (fun i hi => by rw [u1_at, if_neg (by omega)]) (fun _ _ q => by cases q) (fun _ _ q => by cases q) q
/-- the path, one down -/
theorem Zp_R {s : zT} {key : Int32} {d hl hr : Nat} {a : zS} {l1 lb la : List zS} (q : Zp s key d (max hl hr + 1) lb la) (a0 : a ≠ 0) (q1 : zAt s hl (s.1 6 a) l1) (b1 : hl ≤ hr + 1) (b2 : hr ≤ hl + 1) (c : s.2 0 a ≤ key) : Zp (u1 s 8 d a) key (d + 1) hr (lb ++ (l1 ++ [a])) la := by
  have e : (u1 s 8 d a).1 8 d = a := by rw [u1_at, if_pos rfl]
  refine ⟨by rw [e]; exact a0, hl, l1, lb, la, b1, b2, by rw [Nat.max_comm]; exact Zp_8 q, Or.inl ⟨by rw [e]; exact c, ?_, by rw [e], rfl⟩⟩
  rw [e, u1_off (by decide)]
  exact zAt_8 q1
theorem Zp_L {s : zT} {key : Int32} {d hl hr : Nat} {a : zS} {l2 lb la : List zS} (q : Zp s key d (max hl hr + 1) lb la) (a0 : a ≠ 0) (q2 : zAt s hr (s.1 7 a) l2) (b1 : hl ≤ hr + 1) (b2 : hr ≤ hl + 1) (c : ¬ s.2 0 a ≤ key) : Zp (u1 s 8 d a) key (d + 1) hl lb (a :: (l2 ++ la)) := by
  have e : (u1 s 8 d a).1 8 d = a := by rw [u1_at, if_pos rfl]
  refine ⟨by rw [e]; exact a0, hr, l2, lb, la, b2, b1, Zp_8 q, Or.inr ⟨by rw [e]; exact c, ?_, rfl, by rw [e]⟩⟩
  rw [e, u1_off (by decide)]
  exact zAt_8 q2
theorem i32_lt_of {x y : Int32} (h : x ≤ y) (hn : ¬ x = y) : x < y := by
  rw [Int32.lt_iff_toInt_lt]
  rw [Int32.le_iff_toInt_le] at h
  have : x.toInt ≠ y.toInt := fun q => hn (Int32.toInt_inj.mp q)
  omega
theorem i32_lt_nle {x y : Int32} (h : ¬ x ≤ y) : y < x := by
  rw [Int32.lt_iff_toInt_lt]
  rw [Int32.le_iff_toInt_le] at h
  omega
theorem i32_tr {x y w : Int32} (h : x < y) (k : y < w) : x < w := by
  rw [Int32.lt_iff_toInt_lt] at *
  omega
/-- the slot isn't in the tree -/
theorem desc_in {b : zS} : ∀ {n d h : Nat} {lb la l : List zS} {a : zS} {s : zT}, zAt s h a l → Zp s (s.2 0 b) d h lb la → h ≤ n → b ∉ l → (∀ x ∈ lb, s.2 0 x < s.2 0 b) → (∀ x ∈ la, s.2 0 b < s.2 0 x) → Srt s l → (∀ x ∈ l, ¬ s.2 0 x = s.2 0 b) →
    ∃ lb2 la2, Zp (mTr_desc b n d a s).2 (s.2 0 b) (mTr_desc b n d a s).1 0 lb2 la2 ∧ lb2 ++ la2 = lb ++ (l ++ la) ∧ (∀ x ∈ lb2, s.2 0 x < s.2 0 b) ∧ (∀ x ∈ la2, s.2 0 b < s.2 0 x) ∧ (mTr_desc b n d a s).2.2 = s.2 ∧ ∀ r, r ≠ 8 → (mTr_desc b n d a s).2.1 r = s.1 r := by
  intro n
  induction n with
  | zero =>
    intro d h lb la l a s q qz hn _ k1 k2 _ _
    have h0 : h = 0 := by omega
    have : l = [] := (zAt_0 q).2.mp ((zAt_0 q).1.mpr h0)
    subst this; subst h0
    exact ⟨lb, la, qz, rfl, k1, k2, rfl, fun _ _ => rfl⟩
  | succ n ih =>
    intro d h lb la l a s q qz hn hb k1 k2 hs hk
    rcases zAt_cases q with ⟨h1, h2, h3⟩ | ⟨a0, hl, hr, l1, l2, q1, q2, e, b1, b2, q6, rfl⟩
    · subst h1; subst h3
      rw [mTr_desc, if_pos h2]
      exact ⟨lb, la, qz, rfl, k1, k2, rfl, fun _ _ => rfl⟩
    · have ma : a ∈ l1 ++ a :: l2 := List.mem_append_right _ List.mem_cons_self
      have ab : ¬ a = b := fun q => hb (q ▸ ma)
      obtain ⟨s1, s2, s3, s4⟩ := Srt_node hs
      subst e
      by_cases c : s.2 0 a ≤ s.2 0 b
      · have hlt := i32_lt_of c (hk a ma)
        have em : mTr_desc b (n + 1) d a s = mTr_desc b n (d + 1) (s.1 7 a) (u1 s 8 d a) := by
          rw [mTr_desc, if_neg a0, if_neg ab]
          try dsimp only
          rw [show (u1 s 8 d a).2 = s.2 from rfl, if_pos c, u1_off (by decide)]
        obtain ⟨lb2, la2, g1, g2, g3, g4, g5, g6⟩ := ih (s := u1 s 8 d a) (zAt_8 q2) (Zp_R qz a0 q1 b1 b2 c) (by omega) (fun q => hb (List.mem_append_right _ (List.mem_cons_of_mem _ q)))
          (fun x hx => by
            rcases List.mem_append.mp hx with hx | hx
            · exact k1 x hx
            · rcases List.mem_append.mp hx with hx | hx
              · exact i32_tr (s3 x hx) hlt
              · rw [List.mem_singleton.mp hx]; exact hlt) k2 s2 (fun x hx => hk x (List.mem_append_right _ (List.mem_cons_of_mem _ hx)))
        rw [em]
        exact ⟨lb2, la2, g1, by rw [g2]; simp, g3, g4, g5, fun r hr => (g6 r hr).trans (u1_ne hr)⟩
      · have em : mTr_desc b (n + 1) d a s = mTr_desc b n (d + 1) (s.1 6 a) (u1 s 8 d a) := by
          rw [mTr_desc, if_neg a0, if_neg ab]
          try dsimp only
          rw [show (u1 s 8 d a).2 = s.2 from rfl, if_neg c, u1_off (by decide)]
        have hgt := i32_lt_nle c
        obtain ⟨lb2, la2, g1, g2, g3, g4, g5, g6⟩ := ih (s := u1 s 8 d a) (zAt_8 q1) (Zp_L qz a0 q2 b1 b2 c) (by omega) (fun q => hb (List.mem_append_left _ q)) k1
          (fun x hx => by
            rcases List.mem_cons.mp hx with hx | hx
            · rw [hx]; exact hgt
            · rcases List.mem_append.mp hx with hx | hx
              · exact i32_tr hgt (s4 x hx)
              · exact k2 x hx) s1 (fun x hx => hk x (List.mem_append_left _ hx))
        rw [em]
        exact ⟨lb2, la2, g1, by rw [g2]; simp, g3, g4, g5, fun r hr => (g6 r hr).trans (u1_ne hr)⟩
/-- the slot is in the tree -/
theorem desc_at {b : zS} : ∀ {n d h : Nat} {lb la l : List zS} {a : zS} {s : zT}, zAt s h a l → Zp s (s.2 0 b) d h lb la → h ≤ n → b ∈ l → Srt s l →
    ∃ hb lb2 la2 lm, zAt (mTr_desc b n d a s).2 hb b lm ∧ Zp (mTr_desc b n d a s).2 (s.2 0 b) (mTr_desc b n d a s).1 hb lb2 la2 ∧ lb2 ++ (lm ++ la2) = lb ++ (l ++ la) ∧ (mTr_desc b n d a s).2.2 = s.2 ∧ (∀ r, r ≠ 8 → (mTr_desc b n d a s).2.1 r = s.1 r) ∧ (mTr_desc b n d a s).1 + hb ≤ d + h := by
  intro n
  induction n with
  | zero =>
    intro d h lb la l a s q qz hn hb _
    have h0 : h = 0 := by omega
    have : l = [] := (zAt_0 q).2.mp ((zAt_0 q).1.mpr h0)
    rw [this] at hb
    cases hb
  | succ n ih =>
    intro d h lb la l a s q qz hn hb hs
    rcases zAt_cases (id q) with ⟨h1, h2, h3⟩ | ⟨a0, hl, hr, l1, l2, q1, q2, e, b1, b2, q6, rfl⟩
    · rw [h3] at hb; cases hb
    · by_cases ab : a = b
      · subst ab
        rw [mTr_desc, if_neg a0, if_pos rfl]
        exact ⟨h, lb, la, _, q, qz, rfl, rfl, fun _ _ => rfl, Nat.le_refl _⟩
      · obtain ⟨s1, s2, s3, s4⟩ := Srt_node hs
        subst e
        by_cases c : s.2 0 a ≤ s.2 0 b
        · have mb : b ∈ l2 := by
            rcases List.mem_append.mp hb with hx | hx
            · have := s3 b hx
              rw [Int32.lt_iff_toInt_lt] at this
              rw [Int32.le_iff_toInt_le] at c
              omega
            · rcases List.mem_cons.mp hx with hx | hx
              · exact absurd hx.symm ab
              · exact hx
          have em : mTr_desc b (n + 1) d a s = mTr_desc b n (d + 1) (s.1 7 a) (u1 s 8 d a) := by
            rw [mTr_desc, if_neg a0, if_neg ab]
            try dsimp only
            rw [show (u1 s 8 d a).2 = s.2 from rfl, if_pos c, u1_off (by decide)]
          obtain ⟨hb', lb2, la2, lm, g0, g1, g2, g5, g6, g7⟩ := ih (s := u1 s 8 d a) (zAt_8 q2) (Zp_R qz a0 q1 b1 b2 c) (by omega) mb s2
          rw [em]
          exact ⟨hb', lb2, la2, lm, g0, g1, by rw [g2]; simp, g5, fun r hr => (g6 r hr).trans (u1_ne hr), by omega⟩
        · have mb : b ∈ l1 := by
            rcases List.mem_append.mp hb with hx | hx
            · exact hx
            · rcases List.mem_cons.mp hx with hx | hx
              · exact absurd hx.symm ab
              · have := s4 b hx
                rw [Int32.lt_iff_toInt_lt] at this
                rw [Int32.le_iff_toInt_le] at c
                omega
          have em : mTr_desc b (n + 1) d a s = mTr_desc b n (d + 1) (s.1 6 a) (u1 s 8 d a) := by
            rw [mTr_desc, if_neg a0, if_neg ab]
            try dsimp only
            rw [show (u1 s 8 d a).2 = s.2 from rfl, if_neg c, u1_off (by decide)]
          obtain ⟨hb', lb2, la2, lm, g0, g1, g2, g5, g6, g7⟩ := ih (s := u1 s 8 d a) (zAt_8 q1) (Zp_L qz a0 q2 b1 b2 c) (by omega) mb s1
          rw [em]
          exact ⟨hb', lb2, la2, lm, g0, g1, by rw [g2]; simp, g5, fun r hr => (g6 r hr).trans (u1_ne hr), by omega⟩
theorem Srt_nd {s : zT} {l : List zS} (h : Srt s l) : l.Nodup := List.Pairwise.imp (fun {x y} q e => by rw [e] at q; exact i32_lt_irrefl _ q) h
theorem so_of {s s' : zT} (h2 : s'.2 = s.2) (h1 : ∀ r, r ≠ 8 → s'.1 r = s.1 r) : so s s' [] := fun x _ => ⟨by rw [h1 6 (by decide)], by rw [h1 7 (by decide)], by rw [h2]⟩
/-- A SLOT COMES INTO A TREE -/
theorem with_spec {s : zT} {root a : zS} {h : Nat} {l : List zS} (z : s.2 1 0 = 0) (q : zAt s h root l) (hs : Srt s l) (a0 : a ≠ 0) (ha : a ∉ l) (hk : ∀ x ∈ l, ¬ s.2 0 x = s.2 0 a) (hlen : l.length ≤ 2000) :
    ∃ h' l', zAt (mTr_with s root a).2 h' (mTr_with s root a).1 l' ∧ Srt s l' ∧ l'.Perm (a :: l) ∧ so s (mTr_with s root a).2 l' := by
  unfold mTr_with
  try dsimp only
  generalize hs0 : u2 (u1 (u1 s 6 a.val 0) 7 a.val 0) 1 a.val 1 = s0
  have so0 : so s s0 [a] := fun x hx => by
    have xa : x ≠ a := fun q => hx (by rw [q]; exact List.mem_cons_self)
    rw [← hs0]
    exact ⟨by rw [u2_1, u1_off (by decide), u1_at, if_neg (fne xa)], by rw [u2_1, u1_at, if_neg (fne xa), u1_off (by decide)], by rw [u2_at, if_neg (fne xa)]; rfl⟩
  have e0 : s0.2 0 = s.2 0 := by rw [← hs0, u2_ne (by decide)]; rfl
  have e6 : s0.1 6 a = 0 := by rw [← hs0, u2_1, u1_off (by decide), u1_at, if_pos rfl]
  have e7 : s0.1 7 a = 0 := by rw [← hs0, u2_1, u1_at, if_pos rfl]
  have eh : s0.2 1 a = 1 := by rw [← hs0, u2_at, if_pos rfl]
  have z0 : s0.2 1 0 = 0 := (so0 0 (fun q => a0 (List.mem_singleton.mp q).symm)).2.2.trans z
  have q0 : zAt s0 h root l := zAt_so so0 (fun x hx q => ha (List.mem_singleton.mp q ▸ hx)) q
  have h21 := zAt_21 q (by omega)
  have hs' : Srt s0 l := by show l.Pairwise (fun x y : zS => s0.2 0 x < s0.2 0 y); rw [e0]; exact hs
  obtain ⟨lb, la, g1, g2, g3, g4, g5, g6⟩ := desc_in (b := a) (n := 39) (d := 0) (lb := []) (la := []) q0 ⟨rfl, rfl⟩ (by omega) ha (fun _ q => by cases q) (fun _ q => by cases q) hs' (fun x hx => by rw [e0]; exact hk x hx)
  rw [List.nil_append, List.append_nil] at g2
  generalize hd : mTr_desc a 39 0 root s0 = q1 at *
  have so1 := so_of g5 g6
  have e6' : q1.2.1 6 a = 0 := by rw [g6 6 (by decide)]; exact e6
  have e7' : q1.2.1 7 a = 0 := by rw [g6 7 (by decide)]; exact e7
  have ta : zAt q1.2 1 a [a] := zAt_node (hl := 0) (hr := 0) (l1 := []) (l2 := []) (by rw [e6']; exact zAt_nil _) (by rw [e7']; exact zAt_nil _) a0 (by omega) (by omega) rfl (by rw [g5]; exact eh) rfl
  have nl : ∀ x ∈ l, x ≠ 0 := zAt_ne q
  rw [e0] at g3 g4
  have hsl : Srt s (lb ++ a :: la) := by
    have hs2 : Srt s (lb ++ la) := by rw [g2]; exact hs
    obtain ⟨p1, p2, p3⟩ := List.pairwise_append.mp hs2
    refine List.pairwise_append.mpr ⟨p1, List.pairwise_cons.mpr ⟨g4, p2⟩, fun x hx y hy => ?_⟩
    rcases List.mem_cons.mp hy with hy | hy
    · rw [hy]; exact g3 x hx
    · exact p3 x hx y hy
  have hll : (lb ++ a :: la).length = l.length + 1 := by rw [← g2]; simp; omega
  have mb : ∀ x ∈ lb, x ≠ 0 := fun x hx => nl x (by rw [← g2]; exact List.mem_append_left _ hx)
  have ma : ∀ x ∈ la, x ≠ 0 := fun x hx => nl x (by rw [← g2]; exact List.mem_append_right _ hx)
  have ek : q1.2.2 0 a.val = s0.2 0 a := by rw [g5]
  rw [ek]
  obtain ⟨h', k1, k2⟩ := climb_spec (key := s0.2 0 a) (lt := [a]) (by rw [g5]; exact z0) g1 ta (by omega) (by omega) (by show (lb ++ a :: la).Nodup; exact Srt_nd hsl) (by show (lb ++ a :: la).length ≤ 2001; omega) mb ma
  refine ⟨h', lb ++ a :: la, k1, hsl, ?_, ?_⟩
  · rw [← g2]
    exact List.perm_middle
  · refine ((so0.wk ?_).tr (so1.wk (fun _ q => by cases q))).tr k2
    intro x hx
    rw [List.mem_singleton.mp hx]
    exact List.mem_append_right _ List.mem_cons_self
end
section
/-! A SLOT GOES OUT OF A TREE -/
/-- the path from d on, k slots, goes left only -/
def Ex (s : zT) : Nat → Nat → Nat → Nat → List zS → Prop
  | 0, _, h, h', le => h = h' ∧ le = []
  | k + 1, d, h, h', le => s.1 8 d ≠ 0 ∧ ∃ (hl hr : Nat) (lr le' : List zS), h = max hl hr + 1 ∧ hl ≤ hr + 1 ∧ hr ≤ hl + 1 ∧ zAt s hr (s.1 7 (s.1 8 d)) lr ∧ Ex s k (d + 1) hl h' le' ∧ le = le' ++ s.1 8 d :: lr
theorem Zp_Ex {s : zT} {key : Int32} : ∀ {k d h h' : Nat} {lb la le : List zS}, Zp s key d h lb la → Ex s k d h h' le → (∀ x ∈ le, ¬ s.2 0 x ≤ key) → Zp s key (d + k) h' lb (le ++ la) := by
  intro k
  induction k with
  | zero =>
    intro d h h' lb la le q qe _
    obtain ⟨rfl, rfl⟩ := qe
    exact q
  | succ k ih =>
    intro d h h' lb la le q qe hk
    obtain ⟨u0, hl, hr, lr, le', e, b1, b2, qr, qe', rfl⟩ := qe
    subst e
    have q' : Zp s key (d + 1) hl lb (s.1 8 d :: (lr ++ la)) := ⟨u0, hr, lr, lb, la, b2, b1, q, Or.inr ⟨hk _ (List.mem_append_right _ List.mem_cons_self), qr, rfl, rfl⟩⟩
    have g := ih q' qe' (fun x hx => hk x (List.mem_append_left _ hx))
    rw [show d + (k + 1) = d + 1 + k by omega, List.append_assoc]
    exact g
theorem Ex_congr {s s' : zT} {l' : List zS} (h7 : ∀ x : zS, s'.1 7 x = s.1 7 x) (k0 : so s s' l') : ∀ {k d h h' : Nat} {le : List zS}, (∀ i, d ≤ i → s'.1 8 i = s.1 8 i) → (∀ x ∈ le, x ∉ l') → Ex s k d h h' le → Ex s' k d h h' le := by
  intro k
  induction k with
  | zero => intro d h h' le _ _ q; exact q
  | succ k ih =>
    intro d h h' le h8 hd q
    obtain ⟨u0, hl, hr, lr, le', e, b1, b2, qr, qe', rfl⟩ := q
    have e8 := h8 d (Nat.le_refl d)
    refine ⟨by rw [e8]; exact u0, hl, hr, lr, le', e, b1, b2, ?_, ih (fun i hi => h8 i (by omega)) (fun x hx => hd x (List.mem_append_left _ hx)) qe', by rw [e8]⟩
    rw [e8, h7]
    exact zAt_so k0 (fun x hx => hd x (List.mem_append_right _ (List.mem_cons_of_mem _ hx))) qr
theorem Zp_key {s : zT} {key key' : Int32} : ∀ {n h : Nat} {lb la : List zS}, (∀ x ∈ lb, s.2 0 x ≤ key') → (∀ x ∈ la, ¬ s.2 0 x ≤ key') → Zp s key n h lb la → Zp s key' n h lb la := by
  intro n
  induction n with
  | zero => intro h lb la _ _ q; exact q
  | succ n ih =>
    intro h lb la hb ha q
    obtain ⟨u0, ho, lo, lb', la', b1, b2, qz, qq⟩ := q
    rcases qq with ⟨c, qt, rfl, rfl⟩ | ⟨c, qt, rfl, rfl⟩
    · exact ⟨u0, ho, lo, lb', la, b1, b2, ih (fun x hx => hb x (List.mem_append_left _ hx)) ha qz, Or.inl ⟨hb _ (List.mem_append_right _ (List.mem_append_right _ List.mem_cons_self)), qt, rfl, rfl⟩⟩
    · exact ⟨u0, ho, lo, lb, la', b1, b2, ih hb (fun x hx => ha x (List.mem_cons_of_mem _ (List.mem_append_right _ hx))) qz, Or.inr ⟨ha _ List.mem_cons_self, qt, rfl, rfl⟩⟩
theorem heir_spec : ∀ {n d h : Nat} {r : zS} {l : List zS} {s : zT}, zAt s h r l → r ≠ 0 → h ≤ n →
    ∃ (k hr : Nat) (lr le : List zS), (mTr_heir n d r s).1 = d + k ∧ (mTr_heir n d r s).2.1 ≠ 0 ∧ Ex (mTr_heir n d r s).2.2 k d h (hr + 1) le ∧ zAt (mTr_heir n d r s).2.2 hr ((mTr_heir n d r s).2.2.1 7 (mTr_heir n d r s).2.1) lr ∧ l = (mTr_heir n d r s).2.1 :: (lr ++ le) ∧
      (mTr_heir n d r s).2.2.2 = s.2 ∧ (∀ q, q ≠ 8 → (mTr_heir n d r s).2.2.1 q = s.1 q) ∧ ∀ i, i < d → (mTr_heir n d r s).2.2.1 8 i = s.1 8 i := by
  intro n
  induction n with
  | zero =>
    intro d h r l s q r0 hn
    exact absurd ((zAt_0 q).1.mpr (by omega)) r0
  | succ n ih =>
    intro d h r l s q r0 hn
    rcases zAt_cases q with ⟨h1, h2, h3⟩ | ⟨-, hl, hr, l1, l2, q1, q2, e, b1, b2, q6, rfl⟩
    · exact absurd h2 r0
    · by_cases hz : s.1 6 r = 0
      · have em : mTr_heir (n + 1) d r s = (d, r, s) := by rw [mTr_heir, if_pos hz]
        rw [em]
        have z1 : l1 = [] := (zAt_0 q1).2.mp hz
        have z2 : hl = 0 := (zAt_0 q1).1.mp hz
        subst z1; subst z2
        exact ⟨0, hr, l2, [], rfl, r0, ⟨by omega, rfl⟩, q2, by simp, rfl, fun _ _ => rfl, fun _ _ => rfl⟩
      · have em : mTr_heir (n + 1) d r s = mTr_heir n (d + 1) (s.1 6 r) (u1 s 8 d r) := by
          rw [mTr_heir, if_neg hz]
          try dsimp only
          rw [u1_off (by decide)]
        obtain ⟨k, hr', lr, le, g1, g2, g3, g4, g5, g6, g7, g8⟩ := ih (d := d + 1) (s := u1 s 8 d r) (zAt_8 q1) hz (by omega)
        rw [em]
        have e8 : (mTr_heir n (d + 1) (s.1 6 r) (u1 s 8 d r)).2.2.1 8 d = r := by rw [g8 d (by omega), u1_at, if_pos rfl]
        have so1 : so (u1 s 8 d r) (mTr_heir n (d + 1) (s.1 6 r) (u1 s 8 d r)).2.2 [] := so_of g6 g7
        refine ⟨k + 1, hr', lr, le ++ r :: l2, by omega, g2, ⟨by rw [e8]; exact r0, hl, hr, l2, le, e, b1, b2, ?_, g3, by rw [e8]⟩, g4, ?_, g6, fun q hq => (g7 q hq).trans (u1_ne hq), fun i hi => by rw [g8 i (by omega), u1_at, if_neg (by omega)]⟩
        · rw [e8, g7 7 (by decide), u1_off (by decide)]
          exact zAt_so so1 (fun _ _ q => by cases q) (zAt_8 q2)
        · rw [g5]
          simp
/-- the heir takes the slot's place -/
theorem wo_spec {s : zT} {a : zS} {n hl hr : Nat} {l1 l2 lb la : List zS} (z : s.2 1 0 = 0) (q1 : zAt s hl (s.1 6 a) l1) (q2 : zAt s hr (s.1 7 a) l2) (b1 : hl ≤ hr + 1) (b2 : hr ≤ hl + 1) (hz : s.1 7 a ≠ 0) (qz : Zp s (s.2 0 a) n (max hl hr + 1) lb la) (hs : Srt s (lb ++ ((l1 ++ a :: l2) ++ la))) (hlen : (lb ++ ((l1 ++ a :: l2) ++ la)).length ≤ 2001) (hf : hr ≤ 39 - n)
    (nb : ∀ x ∈ lb, x ≠ 0) (na : ∀ x ∈ la, x ≠ 0) : ∃ h', zAt (mTr_wo1 a n (39 - n) (n + 1) (s.1 7 a) s).2 h' (mTr_wo1 a n (39 - n) (n + 1) (s.1 7 a) s).1 (lb ++ ((l1 ++ l2) ++ la)) ∧ so s (mTr_wo1 a n (39 - n) (n + 1) (s.1 7 a) s).2 (lb ++ ((l1 ++ l2) ++ la)) := by
  obtain ⟨k, h2, lr, le, g1, g2, g3, g4, g5, g6, g7, g8⟩ := heir_spec (d := n + 1) (s := s) q2 hz hf
  unfold mTr_wo1 mTr_wo2
  try dsimp only
  generalize hw : mTr_heir (39 - n) (n + 1) (s.1 7 a.val) s = w at *
  obtain ⟨wd, wh, ws⟩ := w
  dsimp only at g1 g2 g3 g4 g5 g6 g7 g8 ⊢
  subst g5; subst g1
  have nd := Srt_nd hs
  obtain ⟨nd1, nd2, ndX⟩ := List.nodup_append.mp nd
  obtain ⟨nd3, nd4, ndY⟩ := List.nodup_append.mp nd2
  obtain ⟨nd5, nd6, ndZ⟩ := List.nodup_append.mp nd3
  obtain ⟨ndA, nd7⟩ := List.nodup_cons.mp nd6
  obtain ⟨ndH, nd8⟩ := List.nodup_cons.mp nd7
  obtain ⟨nd9, nd10, ndE⟩ := List.nodup_append.mp nd8
  -- the state behind the two writes
  have eaw : a ≠ wh := fun q => ndA (q ▸ List.mem_cons_self)
  have e6a : (u1 ws 8 n wh).1 6 a.val = s.1 6 a := by rw [u1_off (by decide), g7 6 (by decide)]
  rw [e6a]
  generalize hs2 : u1 (u1 ws 8 n wh) 6 wh.val (s.1 6 a) = s2
  have r2 : s2.2 = s.2 := by rw [← hs2]; exact g6
  have r6 : ∀ x : zS, s2.1 6 x = if x.val = wh.val then s.1 6 a else s.1 6 x := fun x => by rw [← hs2, u1_at, u1_off (by decide), g7 6 (by decide)]
  have r7 : ∀ x : Nat, s2.1 7 x = s.1 7 x := fun x => by rw [← hs2, u1_off (by decide), u1_off (by decide), g7 7 (by decide)]
  have r8n : s2.1 8 n = wh := by rw [← hs2, u1_off (by decide), u1_at, if_pos rfl]
  have r8 : ∀ i, i ≠ n → s2.1 8 i = ws.1 8 i := fun i hi => by rw [← hs2, u1_off (by decide), u1_at, if_neg hi]
  have sos : so s s2 [wh] := fun x hx => ⟨by rw [r6, if_neg (fne (fun q => hx (by rw [q]; exact List.mem_cons_self)))], r7 x, by rw [r2]⟩
  have sow : so ws s2 [wh] := fun x hx => ⟨by rw [(sos x hx).1, g7 6 (by decide)], by rw [r7, g7 7 (by decide)], by rw [r2, g6]⟩
  -- keys
  have skeys : ∀ x ∈ lb, s.2 0 x < s.2 0 wh := fun x hx => (List.pairwise_append.mp hs).2.2 x hx wh (List.mem_append_left _ (List.mem_append_right _ (List.mem_cons_of_mem _ List.mem_cons_self)))
  have hs4 := (List.pairwise_append.mp hs).2.1
  have skeya : ∀ x ∈ la, s.2 0 wh < s.2 0 x := fun x hx => (List.pairwise_append.mp hs4).2.2 wh (List.mem_append_right _ (List.mem_cons_of_mem _ List.mem_cons_self)) x hx
  have hs5 := (List.pairwise_append.mp (List.pairwise_append.mp hs4).1).2.1
  have hs6 := List.pairwise_cons.mp (List.pairwise_cons.mp hs5).2
  have skeye : ∀ x ∈ le, s.2 0 wh < s.2 0 x := fun x hx => hs6.1 x (List.mem_append_right _ hx)
  have nle : ∀ {x y : Int32}, y < x → ¬ x ≤ y := fun {x y} h q => by
    rw [Int32.lt_iff_toInt_lt] at h
    rw [Int32.le_iff_toInt_le] at q
    omega
  have le_ : ∀ {x y : Int32}, x < y → x ≤ y := fun {x y} h => by
    rw [Int32.lt_iff_toInt_lt] at h
    rw [Int32.le_iff_toInt_le]
    omega
  -- the path
  have p0 : Zp s (s.2 0 wh) n (max hl hr + 1) lb la := Zp_key (fun x hx => le_ (skeys x hx)) (fun x hx => nle (skeya x hx)) qz
  have mwl : wh ∈ l1 ++ a :: wh :: (lr ++ le) := List.mem_append_right _ (List.mem_cons_of_mem _ List.mem_cons_self)
  have p1 : Zp s2 (s.2 0 wh) n (max hl hr + 1) lb la := Zp_congr (by rw [r2]) sos (fun i hi => by rw [r8 i (by omega), g8 i (by omega)]) (fun x hx q => ndX x hx wh (List.mem_append_left _ mwl) (List.mem_singleton.mp q)) (fun x hx q => ndY wh mwl x hx (List.mem_singleton.mp q).symm) p0
  have t1 : zAt s2 hl (s2.1 6 (s2.1 8 n)) l1 := by
    rw [r8n, r6, if_pos rfl]
    exact zAt_so sos (fun x hx q => ndZ x hx wh (List.mem_cons_of_mem _ List.mem_cons_self) (List.mem_singleton.mp q)) q1
  have p2 : Zp s2 (s.2 0 wh) (n + 1) hr (lb ++ (l1 ++ [wh])) la := by
    refine ⟨by rw [r8n]; exact g2, hl, l1, lb, la, b1, b2, by rw [Nat.max_comm]; exact p1, Or.inl ⟨?_, t1, by rw [r8n], rfl⟩⟩
    rw [r8n, r2]
    rw [Int32.le_iff_toInt_le]
    omega
  have hle : ∀ x ∈ le, x ∉ [wh] := fun x hx q => ndH (List.mem_singleton.mp q ▸ List.mem_append_right _ hx)
  have x2 : Ex s2 k (n + 1) hr (h2 + 1) le := Ex_congr (fun x => by rw [r7, g7 7 (by decide)]) sow (fun i hi => r8 i (by omega)) hle g3
  have p3 := Zp_Ex p2 x2 (fun x hx => by rw [r2]; exact nle (skeye x hx))
  have t2 : zAt s2 h2 (s2.1 7 wh) lr := by
    have : s2.1 7 wh = ws.1 7 wh := by rw [r7, g7 7 (by decide)]
    rw [this]
    exact zAt_so sow (fun x hx q => ndH (List.mem_singleton.mp q ▸ List.mem_append_left _ hx)) g4
  have el : (lb ++ (l1 ++ [wh])) ++ (lr ++ (le ++ la)) = lb ++ ((l1 ++ wh :: (lr ++ le)) ++ la) := by simp
  have hperm : (lb ++ ((l1 ++ a :: wh :: (lr ++ le)) ++ la)).Perm (a :: (lb ++ ((l1 ++ wh :: (lr ++ le)) ++ la))) := by
    have : lb ++ ((l1 ++ a :: wh :: (lr ++ le)) ++ la) = (lb ++ l1) ++ a :: (wh :: (lr ++ le) ++ la) := by simp
    rw [this]
    refine List.perm_middle.trans ?_
    have : lb ++ ((l1 ++ wh :: (lr ++ le)) ++ la) = (lb ++ l1) ++ (wh :: (lr ++ le) ++ la) := by simp
    rw [this]
  have ndf := (List.nodup_cons.mp (hperm.nodup_iff.mp nd)).2
  have lenf : (lb ++ ((l1 ++ wh :: (lr ++ le)) ++ la)).length ≤ 2001 := by
    have := hperm.length_eq
    simp only [List.length_cons] at this
    omega
  have nz1 := zAt_ne q1
  have nz2 : ∀ x ∈ wh :: (lr ++ le), x ≠ 0 := zAt_ne q2
  have z2 : s2.2 1 0 = 0 := by rw [r2]; exact z
  obtain ⟨h', k1, k2⟩ := climb_spec (key := s.2 0 wh) z2 p3 t2 (by omega) (by omega) (by rw [el]; exact ndf) (by rw [el]; exact lenf)
    (fun x hx => by
      rcases List.mem_append.mp hx with hx | hx
      · exact nb x hx
      · rcases List.mem_append.mp hx with hx | hx
        · exact nz1 x hx
        · rw [List.mem_singleton.mp hx]; exact g2)
    (fun x hx => by
      rcases List.mem_append.mp hx with hx | hx
      · exact nz2 x (List.mem_cons_of_mem _ (List.mem_append_right _ hx))
      · exact na x hx)
  rw [el] at k1 k2
  have ek : s2.2 0 wh.val = s.2 0 wh := by rw [r2]
  rw [ek]
  refine ⟨h', k1, (sos.wk (fun x hx => ?_)).tr k2⟩
  rw [List.mem_singleton.mp hx]
  exact List.mem_append_right _ (List.mem_append_left _ (List.mem_append_right _ List.mem_cons_self))
theorem without_spec {s : zT} {root a : zS} {h : Nat} {l : List zS} (z : s.2 1 0 = 0) (q : zAt s h root l) (hs : Srt s l) (ha : a ∈ l) (hlen : l.length ≤ 2001) :
    ∃ h' l', zAt (mTr_without s root a).2 h' (mTr_without s root a).1 l' ∧ Srt s l' ∧ l.Perm (a :: l') ∧ so s (mTr_without s root a).2 l' := by
  have h21 := zAt_21 q hlen
  obtain ⟨hb, lb, la, lm, g0, g1, g2, g5, g6, g7⟩ := desc_at (b := a) (n := 39) (d := 0) (lb := []) (la := []) q ⟨rfl, rfl⟩ (by omega) ha hs
  rw [List.nil_append, List.append_nil] at g2
  unfold mTr_without
  try dsimp only
  generalize hd : mTr_desc a 39 0 root s = q1 at *
  have so1 := so_of g5 g6
  have nl : ∀ x ∈ l, x ≠ 0 := zAt_ne q
  have nb : ∀ x ∈ lb, x ≠ 0 := fun x hx => nl x (by rw [← g2]; exact List.mem_append_left _ hx)
  have na : ∀ x ∈ la, x ≠ 0 := fun x hx => nl x (by rw [← g2]; exact List.mem_append_right _ (List.mem_append_right _ hx))
  have z1 : q1.2.2 1 0 = 0 := by rw [g5]; exact z
  have hs1 : Srt q1.2 l := by show l.Pairwise (fun x y : zS => q1.2.2 0 x < q1.2.2 0 y); rw [g5]; exact hs
  rcases zAt_cases g0 with ⟨x1, x2, x3⟩ | ⟨a0, hl, hr, l1, l2, t1, t2, e, b1, b2, -, rfl⟩
  · exact absurd x2 (nl a ha)
  · subst e
    have hsub : (lb ++ ((l1 ++ l2) ++ la)).Sublist l := by
      rw [← g2]
      exact List.Sublist.append (List.Sublist.refl _) (List.Sublist.append (List.Sublist.append (List.Sublist.refl _) (List.sublist_cons_self _ _)) (List.Sublist.refl _))
    have hperm : l.Perm (a :: (lb ++ ((l1 ++ l2) ++ la))) := by
      rw [← g2]
      have e1 : lb ++ ((l1 ++ a :: l2) ++ la) = (lb ++ l1) ++ a :: (l2 ++ la) := by simp
      have e2 : lb ++ ((l1 ++ l2) ++ la) = (lb ++ l1) ++ (l2 ++ la) := by simp
      rw [e1, e2]
      exact List.perm_middle
    by_cases hz : q1.2.1 7 a = 0
    · rw [if_pos hz]
      have y1 : l2 = [] := (zAt_0 t2).2.mp hz
      have y2 : hr = 0 := (zAt_0 t2).1.mp hz
      subst y1; subst y2
      rw [List.append_nil] at hsub hperm
      have ek : q1.2.2 0 a.val = s.2 0 a := by rw [g5]
      rw [ek]
      obtain ⟨h', k1, k2⟩ := climb_spec (key := s.2 0 a) z1 g1 t1 (by omega) (by omega) (hsub.nodup (Srt_nd hs)) (by have := hsub.length_le; omega) nb na
      exact ⟨h', _, k1, hs.sublist hsub, hperm, (so1.wk (fun _ q => by cases q)).tr k2⟩
    · rw [if_neg hz]
      have ek : s.2 0 a = q1.2.2 0 a := by rw [g5]
      rw [ek] at g1
      rw [← g2] at hs1 hlen
      obtain ⟨h', k1, k2⟩ := wo_spec z1 t1 t2 b1 b2 hz g1 hs1 hlen (by omega) nb na
      exact ⟨h', _, k1, hs.sublist hsub, hperm, (so1.wk (fun _ q => by cases q)).tr k2⟩
end
section
/-! THE BINS' CHAINS: the first one of a chain has the last one before it -/
def Pv (g : Nat → zS) : List zS → Prop
  | [] => True
  | x :: xs => g x = lst x xs ∧ Bk g x xs
def BnC (s : zT) (p : Nat) (b : List zS) : Prop := Sg (s.1 2) (s.1 4 p) b 0 ∧ Pv (s.1 3) b
theorem BnC_congr {s s' : zT} {p p' : Nat} {b : List zS} (h2 : ∀ x ∈ b, s'.1 2 x = s.1 2 x) (h3 : ∀ x ∈ b, s'.1 3 x = s.1 3 x) (h4 : s'.1 4 p' = s.1 4 p) (q : BnC s p b) : BnC s' p' b := by
  refine ⟨by rw [h4]; exact Sg_congr h2 q.1, ?_⟩
  cases b with
  | nil => trivial
  | cons x xs => exact ⟨(h3 x List.mem_cons_self).trans q.2.1, Bk_congr (fun y hy => h3 y (List.mem_cons_of_mem _ hy)) q.2.2⟩
theorem Bi_app_rows (s : zT) (p : zP) (a : zS) : (mBi_append s p a).1 2 = (if s.1 4 p = 0 then zup (s.1 2) a 0 else zup (zup (s.1 2) a 0) (s.1 3 (s.1 4 p)) a) ∧ (mBi_append s p a).1 3 = (if s.1 4 p = 0 then zup (s.1 3) a a else zup (zup (s.1 3) a (s.1 3 (s.1 4 p))) (s.1 4 p) a) ∧
    (mBi_append s p a).1 4 = (if s.1 4 p = 0 then zup (s.1 4) p a else s.1 4) ∧ ∀ q, q ≠ 2 → q ≠ 3 → q ≠ 4 → (mBi_append s p a).1 q = s.1 q := by
  unfold mBi_append
  by_cases h : s.1 4 p = 0
  · simp only [if_pos h]
    exact ⟨rfl, rfl, rfl, fun q h2 h3 h4 => by rw [u1_ne h3, u1_ne h4, u1_ne h2]⟩
  · simp only [if_neg h]
    exact ⟨rfl, rfl, rfl, fun q h2 h3 h4 => by rw [u1_ne h3, u1_ne h3, u1_ne h2, u1_ne h2]⟩
theorem Bi_unl_rows (s : zT) (p : zP) (a : zS) : (mBi_unlink s p a).1 2 = (if a = s.1 4 p then s.1 2 else zup (s.1 2) (s.1 3 a) (s.1 2 a)) ∧ (mBi_unlink s p a).1 3 = (if s.1 2 a = 0 then (if a = s.1 4 p then s.1 3 else zup (s.1 3) (s.1 4 p) (s.1 3 a)) else zup (s.1 3) (s.1 2 a) (s.1 3 a)) ∧
    (mBi_unlink s p a).1 4 = (if a = s.1 4 p then zup (s.1 4) p (s.1 2 a) else s.1 4) ∧ ∀ q, q ≠ 2 → q ≠ 3 → q ≠ 4 → (mBi_unlink s p a).1 q = s.1 q := by
  unfold mBi_unlink
  by_cases h : a = s.1 4 p <;> by_cases k : s.1 2 a = 0
  · simp only [if_pos h, if_pos k]
    exact ⟨rfl, rfl, rfl, fun q h2 h3 h4 => by rw [u1_ne h4]⟩
  · simp only [if_pos h, if_neg k]
    exact ⟨rfl, rfl, rfl, fun q h2 h3 h4 => by rw [u1_ne h3, u1_ne h4]⟩
  · simp only [if_neg h, if_pos k]
    exact ⟨rfl, rfl, rfl, fun q h2 h3 h4 => by rw [u1_ne h3, u1_ne h2]⟩
  · simp only [if_neg h, if_neg k]
    exact ⟨rfl, rfl, rfl, fun q h2 h3 h4 => by rw [u1_ne h3, u1_ne h2]⟩
theorem BnC_head {s : zT} {p : Nat} {x : zS} {xs : List zS} (q : BnC s p (x :: xs)) : s.1 4 p = x ∧ x ≠ 0 ∧ s.1 3 x = lst x xs := ⟨q.1.1, q.1.2.1, q.2.1⟩
/-- a slot comes to the end of its chain -/
theorem BnC_append {s : zT} {p : zP} {a : zS} {b : List zS} (q : BnC s p b) (nd : (b ++ [a]).Nodup) (a0 : a ≠ 0) : BnC (mBi_append s p a) p (b ++ [a]) := by
  obtain ⟨r2, r3, r4, -⟩ := Bi_app_rows s p a
  cases b with
  | nil =>
    have h0 : s.1 4 p = 0 := q.1
    rw [if_pos h0] at r2 r3 r4
    refine ⟨?_, ?_, trivial⟩
    · rw [r2, r4, zup_eq]
      exact ⟨rfl, a0, zup_eq⟩
    · show (mBi_append s p a).1 3 a = a
      rw [r3, zup_eq]
  | cons x xs =>
    obtain ⟨h1, h2, h3⟩ := BnC_head q
    have h0 : ¬ s.1 4 p = 0 := by rw [h1]; exact h2
    rw [if_neg h0] at r2 r3 r4
    rw [h1, h3] at r2 r3
    have hal : a ∉ x :: xs := fun w => (List.nodup_append.mp nd).2.2 a w a List.mem_cons_self rfl
    have nx := (List.nodup_append.mp nd).1
    obtain ⟨l0, e0⟩ := lst_split (l := x :: xs) (p := 0) (by simp)
    have hm : lst x xs ∈ x :: xs := lst_in (l := x :: xs) (p := 0) (by simp)
    have e0' : x :: xs = l0 ++ [lst x xs] := e0
    generalize hy : lst x xs = y at *
    have hya : y ≠ a := fun w => hal (w ▸ hm)
    refine ⟨?_, ?_⟩
    · rw [r2, r4, e0']
      rw [e0'] at nx hal
      have hyl : y ∉ l0 := fun w => (List.nodup_append.mp nx).2.2 y w y List.mem_cons_self rfl
      have hal0 : a ∉ l0 := fun w => hal (List.mem_append_left _ w)
      have g := q.1
      rw [e0'] at g
      obtain ⟨g1, g2, g3⟩ := Sg_snoc.mp g
      refine Sg_snoc.mpr ⟨Sg_snoc.mpr ⟨Sg_up hyl (Sg_up hal0 g1), g2, zup_eq⟩, a0, ?_⟩
      rw [zup_ne (zne hya.symm)]
      exact zup_eq
    · obtain ⟨n1, n2⟩ := List.nodup_cons.mp nx
      have hax : a ≠ x := fun w => hal (by rw [w]; exact List.mem_cons_self)
      have haxs : a ∉ xs := fun w => hal (List.mem_cons_of_mem _ w)
      rw [r3]
      refine ⟨?_, Bk_app.mpr ⟨Bk_up n1 (Bk_up haxs q.2.2), ?_, trivial⟩⟩
      · rw [zup_eq]
        show a = lst x (xs ++ [a])
        rw [lst_app]
        rfl
      · rw [zup_ne (zne hax), zup_eq, hy]
/-- a slot goes out of its chain -/
theorem BnC_unlink {s : zT} {p : zP} {a : zS} {l1 l2 : List zS} (q : BnC s p (l1 ++ a :: l2)) (nd : (l1 ++ a :: l2).Nodup) : BnC (mBi_unlink s p a) p (l1 ++ l2) := by
  obtain ⟨r2, r3, r4, -⟩ := Bi_unl_rows s p a
  obtain ⟨qs, qp⟩ := q
  obtain ⟨m, g1, rfl, g2, g3⟩ := Sg_app.mp qs
  obtain ⟨n1, n2, nX⟩ := List.nodup_append.mp nd
  obtain ⟨nM, n3⟩ := List.nodup_cons.mp n2
  have z2 : s.1 2 m = 0 ↔ l2 = [] := by
    cases l2 with
    | nil => exact ⟨fun _ => rfl, fun _ => g3⟩
    | cons y ys => exact ⟨fun w => absurd (g3.1.symm.trans w) g3.2.1, fun w => by cases w⟩
  cases l1 with
  | nil =>
    have hm : m = s.1 4 p := g1.symm
    rw [if_pos hm] at r2 r4
    obtain ⟨p1, p2⟩ := qp
    refine ⟨by rw [r2, r4, zup_eq]; exact g3, ?_⟩
    cases l2 with
    | nil => trivial
    | cons y ys =>
      rw [if_neg (fun w => by have := z2.mp w; cases this)] at r3
      have ey : s.1 2 m = y := g3.1
      rw [r3, ey, p1]
      exact ⟨zup_eq, Bk_up (List.nodup_cons.mp n3).1 p2.2⟩
  | cons x xs =>
    have hx : s.1 4 p = x := g1.1
    have mx : m ≠ x := fun w => nX x List.mem_cons_self m List.mem_cons_self w.symm
    rw [hx, if_neg mx] at r2 r3 r4
    obtain ⟨p1, p2⟩ := qp
    obtain ⟨p3, p4, p5⟩ := Bk_app.mp p2
    have e1 : s.1 3 m = lst x xs := p4
    rw [e1] at r2 r3
    obtain ⟨l0, e0⟩ := lst_split (l := x :: xs) (p := 0) (by simp)
    have e0' : x :: xs = l0 ++ [lst x xs] := e0
    have hym : lst x xs ∈ x :: xs := lst_in (l := x :: xs) (p := 0) (by simp)
    have hlast : lst x (xs ++ m :: l2) = lst m l2 := by rw [lst_app]; rfl
    refine ⟨?_, ?_⟩
    · rw [r2, r4]
      generalize hy : lst x xs = y at *
      have hyl : y ∉ l0 := fun w => by
        rw [e0'] at n1
        exact (List.nodup_append.mp n1).2.2 y w y List.mem_cons_self rfl
      rw [e0'] at g1
      obtain ⟨k1, k2, k3⟩ := Sg_snoc.mp g1
      refine Sg_app.mpr ⟨s.1 2 m, ?_, Sg_up (fun w => nX y hym y (List.mem_cons_of_mem _ w) rfl) g3⟩
      rw [e0']
      exact Sg_snoc.mpr ⟨Sg_up hyl k1, k2, zup_eq⟩
    · obtain ⟨nx1, nx2⟩ := List.nodup_cons.mp n1
      cases l2 with
      | nil =>
        rw [if_pos (z2.mpr rfl)] at r3
        rw [List.append_nil, r3]
        exact ⟨zup_eq, Bk_up nx1 p3⟩
      | cons y ys =>
        rw [if_neg (fun w => by have := z2.mp w; cases this)] at r3
        have ey : s.1 2 m = y := g3.1
        rw [r3, ey]
        have hyx : y ∉ x :: xs := fun w => nX y w y (List.mem_cons_of_mem _ List.mem_cons_self) rfl
        refine ⟨?_, Bk_app.mpr ⟨Bk_up (fun w => hyx (List.mem_cons_of_mem _ w)) p3, zup_eq, Bk_up (List.nodup_cons.mp n3).1 p5.2⟩⟩
        rw [zup_ne (zne (fun w => hyx (by rw [← w]; exact List.mem_cons_self))), p1]
        show lst x (xs ++ m :: y :: ys) = lst x (xs ++ y :: ys)
        rw [hlast, lst_app]
        rfl
end
section
/-! THE REFERENCE: rows of ints (0 keys, 1 numbers, 4: 0 failed, 1 mode, 2 function, 3 most, 4 room), the order, the heads, the size -/
abbrev zM : Type := (Nat → Nat → Int32) × (Nat → Fin 2000) × (Nat → Nat) × Nat
def zq (f : Fin 2000) : Int32 := nI f.val
def zo : Option Nat → Int32
  | none => -1
  | some i => nI i
def y1 (m : zM) (r i : Nat) (x : Int32) : zM := (fun q => bif Nat.beq q r then zup (m.1 q) i x else m.1 q, m.2)
def yo (m : zM) (i : Nat) (f : Fin 2000) : zM := (m.1, zup m.2.1 i f, m.2.2)
def yh (m : zM) (i h : Nat) : zM := (m.1, m.2.1, zup m.2.2.1 i h, m.2.2.2)
def yz (m : zM) (n : Nat) : zM := (m.1, m.2.1, m.2.2.1, n)
def mMo_fail (m : zM) (c : Int32) : zM := y1 m 4 0 c
def mMo_at1L (m : zM) (k : Int32) : Nat → Nat → Option Nat
  | 0, _ => none
  | n + 1, i => if m.1 0 i = k then some i else mMo_at1L m k n (i + 1)
def mMo_at1 (m : zM) (k : Int32) : Option Nat := mMo_at1L m k m.2.2.2 0
def mMo_code (m : zM) (k : Int32) : Int32 := if m.1 4 2 = 0 then k else if m.1 4 2 = 1 then k &&& 3 else k * (-1640531527)
def mMo_place (m : zM) (k : Int32) : zP := ⟨(mBi_mix (mMo_code m k) &&& (m.1 4 4 - 1)).toNatClampNeg % 4096, Nat.mod_lt _ (by decide)⟩
def mMo_remL : Nat → Nat → zM → zM
  | 0, _, m => m
  | n + 1, i, m =>
    let m := y1 m 0 i (m.1 0 (i + 1))
    let m := y1 m 1 i (m.1 1 (i + 1))
    mMo_remL n (i + 1) m
def mMo_remove (m : zM) (j : Nat) : zM := mMo_remL (m.2.2.2 - 1 - j) j (yz m (m.2.2.2 - 1))
def mMo_append (m : zM) (k x : Int32) : zM :=
  let m := y1 m 0 m.2.2.2 k
  let m := y1 m 1 m.2.2.2 x
  yz m (m.2.2.2 + 1)
def mMo_touch (m : zM) (j : Nat) : zM := mMo_append (mMo_remove m j) (m.1 0 j) (m.1 1 j)
def mMo_full (m : zM) (k : Int32) : Bool := !decide (2 ≤ m.1 4 1) && (decide (nI m.2.2.2 = 2000) && (mMo_at1 m k).isNone)
def mMo_ent2 (m : zM) (k x : Int32) : zM :=
  let m := mMo_append m k x
  if m.1 4 1 = 0 then (if 4 * nI m.2.2.2 ≤ 3 * m.1 4 4 then m else y1 m 4 4 (m.1 4 4 * 2)) else m
def mMo_ent1 (m : zM) (k x : Int32) : zM := if m.1 4 1 = 2 then (if nI m.2.2.2 = m.1 4 3 then mMo_ent2 (mMo_remove m 0) k x else mMo_ent2 m k x) else mMo_ent2 m k x
def mMo_ent0 (m : zM) (j : Nat) (x : Int32) : zM := if (y1 m 1 j x).1 4 1 = 2 then mMo_touch (y1 m 1 j x) j else y1 m 1 j x
def mMo_enter (m : zM) (k x : Int32) : zM := match mMo_at1 m k with
  | some j => mMo_ent0 m j x
  | none => mMo_ent1 m k x
def mMo_layI : Nat → Nat → zM → zM
  | 0, _, m => m
  | n + 1, i, m => mMo_layI n (i + 1) (yo m i (Fin.ofNat 2000 i))
def mMo_lay0 : Nat → Nat → zM → zM
  | 0, _, m => m
  | n + 1, p, m => mMo_lay0 n (p + 1) (yh m p 0)
def mMo_lay1 : Nat → Nat → zM → zM
  | 0, _, m => m
  | n + 1, i, m => mMo_lay1 n (i + 1) (yh m (mMo_place m (m.1 0 i)) (m.2.2.1 (mMo_place m (m.1 0 i)) + 1))
def mMo_lay2 : Nat → Nat → Nat → zM → zM
  | 0, _, _, m => m
  | n + 1, p, sum, m => mMo_lay2 n (p + 1) (sum + m.2.2.1 p) (yh m p sum)
def mMo_lay3 : Nat → Nat → zM → zM
  | 0, _, m => m
  | n + 1, i, m => mMo_lay3 n (i + 1) (yo (yh m (mMo_place m (m.1 0 i)) (m.2.2.1 (mMo_place m (m.1 0 i)) + 1)) (m.2.2.1 (mMo_place m (m.1 0 i))) (Fin.ofNat 2000 i))
/-- the fourth loop writes within the order's row -/
def laySf : Nat → Nat → zM → Prop
  | 0, _, _ => True
  | n + 1, i, m => m.2.2.1 (mMo_place m (m.1 0 i)) < 2000 ∧ laySf n (i + 1) (yo (yh m (mMo_place m (m.1 0 i)) (m.2.2.1 (mMo_place m (m.1 0 i)) + 1)) (m.2.2.1 (mMo_place m (m.1 0 i))) (Fin.ofNat 2000 i))
def mMo_F3 (m : zM) : zM := mMo_lay3 m.2.2.2 0 m
def mMo_F2 (m : zM) : zM := mMo_lay2 (m.1 4 4).toNatClampNeg 0 0 m
def mMo_F1 (m : zM) : zM := mMo_F2 (mMo_lay1 m.2.2.2 0 m)
def mMo_F0 (m : zM) : zM := mMo_F1 (mMo_lay0 (m.1 4 4).toNatClampNeg 0 m)
/-- what laying the order by places wants -/
def layOk (m : zM) : Prop := m.1 4 1 ≤ 0 → laySf (mMo_F0 m).2.2.2 0 (mMo_F0 m)
def mMo_lay (m : zM) : zM := if m.1 4 1 ≤ 0 then mMo_F3 (mMo_F0 m) else mMo_layI m.2.2.2 0 m
def mMo_afL (m : zM) (k : Int32) : Nat → Nat → Option Int32
  | 0, _ => none
  | n + 1, i => if m.1 0 (m.2.1 i) = k then some (m.1 0 (m.2.1 (i + 1))) else mMo_afL m k n (i + 1)
def mMo_hashL (m : zM) : Nat → Nat → Int32 → Int32
  | 0, _, h => h
  | n + 1, i, h => mMo_hashL m n (i + 1) (31 * (31 * h + m.1 0 (m.2.1 i)) + m.1 1 (m.2.1 i))
def mMo_okMode (mode f most : Int32) : Bool := !decide (mode < 0) && (!decide (2 < mode) && (!decide (f < 0) && (!decide (2 < f) && (if mode = 2 then !decide (most < 1) && decide (most ≤ 2000) else decide (most = 0)))))
def mMo_make (m : zM) (mode f most : Int32) : Int32 × zM :=
  let m := y1 m 4 0 0
  if mMo_okMode mode f most then (nI m.2.2.2, yz (y1 (y1 (y1 (y1 m 4 1 mode) 4 2 f) 4 3 most) 4 4 16) 0) else (0, y1 m 4 0 1)
def mMo_put (m : zM) (k x : Int32) : Int64 × zM :=
  let m := y1 m 4 0 0
  if mMo_full m k then ((0 : Int32).toInt64, y1 m 4 0 1) else (match mMo_at1 m k with | some j => (m.1 1 j).toInt64 | none => 4294967296, mMo_enter m k x)
def mMo_find (m : zM) (k : Int32) (t : Bool) : Int32 × zM :=
  let m := y1 m 4 0 0
  match mMo_at1 m k with
  | none => (0, y1 m 4 0 1)
  | some j => (m.1 1 j, if t then mMo_remove m j else if m.1 4 1 = 2 then mMo_touch m j else m)
def mMo_fillL (x step : Int32) : Nat → Nat → zM → zM
  | 0, _, m => m
  | n + 1, i, m => if mMo_full m (x + nI i * step) then m else mMo_fillL x step n (i + 1) (mMo_enter m (x + nI i * step) (nI i))
def mMo_fill (m : zM) (x step nn : Int32) : Int32 × zM :=
  let m := y1 m 4 0 0
  if nn < 0 then (0, y1 m 4 0 1) else if nn ≤ 2000 then (nI (mMo_fillL x step nn.toNatClampNeg 0 m).2.2.2, mMo_fillL x step nn.toNatClampNeg 0 m) else (0, y1 m 4 0 1)
def mMo_at (m : zM) (i : Int32) : Int32 × zM :=
  let m := y1 m 4 0 0
  if i < 0 then (0, y1 m 4 0 1) else if i < nI m.2.2.2 then ((mMo_lay m).1 0 ((mMo_lay m).2.1 i.toNatClampNeg), mMo_lay m) else (0, y1 m 4 0 1)
def mMo_afR (m : zM) : Option Int32 → Int32 × zM
  | some v => (v, m)
  | none => (0, y1 m 4 0 1)
def mMo_after (m : zM) (k : Int32) : Int32 × zM := mMo_afR (mMo_lay (y1 m 4 0 0)) (mMo_afL (mMo_lay (y1 m 4 0 0)) k ((mMo_lay (y1 m 4 0 0)).2.2.2 - 1) 0)
def mMo_hash (m : zM) : Int32 := mMo_hashL (mMo_lay (y1 m 4 0 0)) (mMo_lay (y1 m 4 0 0)).2.2.2 0 1
def mrok (m : zM) : Prop := ∃ e : Nat, e ≤ 8 ∧ m.1 4 4 = nI (2 ^ (e + 4))
/-- what enter wants: room for one more -/
def entOk (m : zM) (k : Int32) : Prop := mMo_at1 m k = none → (if m.1 4 1 = 2 ∧ nI m.2.2.2 = m.1 4 3 then 1 ≤ m.2.2.2 else m.2.2.2 < 2000)
/-- what fill wants all along -/
def fillOk (x step : Int32) : Nat → Nat → zM → Prop
  | 0, _, m => m.2.2.2 ≤ 2000
  | n + 1, i, m => m.2.2.2 ≤ 2000 ∧ (mMo_full m (x + nI i * step) = false → entOk m (x + nI i * step) ∧ fillOk x step n (i + 1) (mMo_enter m (x + nI i * step) (nI i)))
theorem mrok_nI {m : zM} (hr : mrok m) : ∃ r : Nat, 1 ≤ r ∧ r ≤ 4096 ∧ m.1 4 4 = nI r := by
  obtain ⟨e, he, hs⟩ := hr
  exact ⟨2 ^ (e + 4), Nat.one_le_two_pow, Nat.le_trans (Nat.pow_le_pow_right (by decide) (show e + 4 ≤ 12 by omega)) (by decide), hs⟩
theorem mrok_le {m : zM} (h : mrok m) : (m.1 4 4).toNatClampNeg ≤ 4096 := by
  obtain ⟨r, -, h2, e⟩ := mrok_nI h
  rw [e, nI_clamp (by omega)]
  exact h2
theorem mplace_eq {m : zM} {key : Int32} (hr : mrok m) : mBi_mix (mMo_code m key) &&& (m.1 4 4 - 1) = zp (mMo_place m key) := by
  obtain ⟨r, h1, h2, e⟩ := mrok_nI hr
  have e1 : m.1 4 4 - 1 = nI (r - 1) := by
    rw [e]
    exact pk_sub (b := 1) h1
  have hle : (mBi_mix (mMo_code m key) &&& (m.1 4 4 - 1)).toBitVec.toNat ≤ r - 1 := by
    rw [e1, Int32.toBitVec_and, BitVec.toNat_and, pk_tn (by omega)]
    exact Nat.and_le_right
  have e3 := i32_tn (mBi_mix (mMo_code m key) &&& (m.1 4 4 - 1))
  show _ = nI ((mBi_mix (mMo_code m key) &&& (m.1 4 4 - 1)).toNatClampNeg % 4096)
  have e4 : (mBi_mix (mMo_code m key) &&& (m.1 4 4 - 1)).toNatClampNeg = (mBi_mix (mMo_code m key) &&& (m.1 4 4 - 1)).toBitVec.toNat := by
    conv => lhs; rw [e3]
    exact nI_clamp (by omega)
  rw [e4, Nat.mod_eq_of_lt (by omega)]
  exact e3
theorem at1L_lt {m : zM} {k : Int32} : ∀ {n i j : Nat}, mMo_at1L m k n i = some j → j < i + n := by
  intro n
  induction n with
  | zero => intro i j h; cases h
  | succ n ih =>
    intro i j h
    rw [mMo_at1L] at h
    split at h
    · cases h; omega
    · have := ih h; omega
theorem at1_lt {m : zM} {k : Int32} {j : Nat} (h : mMo_at1 m k = some j) : j < m.2.2.2 := by
  have := at1L_lt h
  omega
theorem remL_z : ∀ (n i : Nat) (m : zM), (mMo_remL n i m).2 = m.2 ∧ ∀ q, q ≠ 0 → q ≠ 1 → (mMo_remL n i m).1 q = m.1 q := by
  intro n
  induction n with
  | zero => intro i m; exact ⟨rfl, fun _ _ _ => rfl⟩
  | succ n ih =>
    intro i m
    obtain ⟨h1, h2⟩ := ih (i + 1) (y1 (y1 m 0 i (m.1 0 (i + 1))) 1 i ((y1 m 0 i (m.1 0 (i + 1))).1 1 (i + 1)))
    refine ⟨h1, fun q q0 q1 => (h2 q q0 q1).trans ?_⟩
    show (bif Nat.beq q 1 then _ else bif Nat.beq q 0 then _ else _) = m.1 q
    cases h3 : Nat.beq q 1 with
    | true => exact absurd (Nat.eq_of_beq_eq_true h3) q1
    | false =>
      cases h4 : Nat.beq q 0 with
      | true => exact absurd (Nat.eq_of_beq_eq_true h4) q0
      | false => rfl
theorem rem_z (m : zM) (j : Nat) : (mMo_remove m j).2.2.2 = m.2.2.2 - 1 := by
  unfold mMo_remove
  rw [(remL_z _ _ _).1]
  rfl
theorem zq_clamp (a : Fin 2000) : (zq a).toNatClampNeg = a.val := nI_clamp (Nat.lt_trans a.isLt (by decide))
theorem zq_in (a : Fin 2000) : vp_in (zq a) 2000 := vp_in_nI a.isLt (by decide)
theorem zq_of {i : Nat} (h : i < 2000) : zq (Fin.ofNat 2000 i) = nI i := by
  show nI (i % 2000) = nI i
  rw [Nat.mod_eq_of_lt h]
theorem up_zq (f : Nat → Fin 2000) (i : Nat) (v : Fin 2000) : upd (fun k => zq (f k)) i (zq v) = fun k => zq (zup f i v k) := by
  funext k
  unfold upd zup
  by_cases h : k = i
  · rw [if_pos h, if_pos h]
  · rw [if_neg h, if_neg h]
theorem up_zn (f : Nat → Nat) (i v : Nat) : upd (fun k => nI (f k)) i (nI v) = fun k => nI (zup f i v k) := by
  funext k
  unfold upd zup
  by_cases h : k = i
  · rw [if_pos h, if_pos h]
  · rw [if_neg h, if_neg h]
theorem up_zm (m : zM) (r i : Nat) (v : Int32) : upd (m.1 r) i v = zup (m.1 r) i v := rfl
theorem zo_lt {o : Option Nat} (h : ∀ i, o = some i → i < 2 ^ 31) : zo o < 0 ↔ o = none := by
  cases o with
  | none => exact ⟨fun _ => rfl, fun _ => by decide⟩
  | some i => exact ⟨fun q => absurd q (nI_pos (h i rfl)), fun q => by cases q⟩
theorem layI_z : ∀ (n i : Nat) (m : zM), (mMo_layI n i m).1 = m.1 ∧ (mMo_layI n i m).2.2 = m.2.2 := by
  intro n
  induction n with
  | zero => intro i m; exact ⟨rfl, rfl⟩
  | succ n ih => intro i m; exact ih _ _
theorem lay0_z : ∀ (n i : Nat) (m : zM), (mMo_lay0 n i m).1 = m.1 ∧ (mMo_lay0 n i m).2.2.2 = m.2.2.2 := by
  intro n
  induction n with
  | zero => intro i m; exact ⟨rfl, rfl⟩
  | succ n ih => intro i m; exact ih _ _
theorem lay1_z : ∀ (n i : Nat) (m : zM), (mMo_lay1 n i m).1 = m.1 ∧ (mMo_lay1 n i m).2.2.2 = m.2.2.2 := by
  intro n
  induction n with
  | zero => intro i m; exact ⟨rfl, rfl⟩
  | succ n ih => intro i m; exact ih _ _
theorem lay2_z : ∀ (n i j : Nat) (m : zM), (mMo_lay2 n i j m).1 = m.1 ∧ (mMo_lay2 n i j m).2.2.2 = m.2.2.2 := by
  intro n
  induction n with
  | zero => intro i j m; exact ⟨rfl, rfl⟩
  | succ n ih => intro i j m; exact ih _ _ _
theorem lay3_z : ∀ (n i : Nat) (m : zM), (mMo_lay3 n i m).1 = m.1 ∧ (mMo_lay3 n i m).2.2.2 = m.2.2.2 := by
  intro n
  induction n with
  | zero => intro i m; exact ⟨rfl, rfl⟩
  | succ n ih => intro i m; exact ih _ _
theorem F0_z (m : zM) : (mMo_F0 m).1 = m.1 ∧ (mMo_F0 m).2.2.2 = m.2.2.2 := by
  have h0 := lay0_z (m.1 4 4).toNatClampNeg 0 m
  have h1 := lay1_z (mMo_lay0 (m.1 4 4).toNatClampNeg 0 m).2.2.2 0 (mMo_lay0 (m.1 4 4).toNatClampNeg 0 m)
  have h2 := lay2_z ((mMo_lay1 (mMo_lay0 (m.1 4 4).toNatClampNeg 0 m).2.2.2 0 (mMo_lay0 (m.1 4 4).toNatClampNeg 0 m)).1 4 4).toNatClampNeg 0 0 (mMo_lay1 (mMo_lay0 (m.1 4 4).toNatClampNeg 0 m).2.2.2 0 (mMo_lay0 (m.1 4 4).toNatClampNeg 0 m))
  exact ⟨h2.1.trans (h1.1.trans h0.1), h2.2.trans (h1.2.trans h0.2)⟩
theorem lay_z (m : zM) : (mMo_lay m).1 = m.1 ∧ (mMo_lay m).2.2.2 = m.2.2.2 := by
  unfold mMo_lay
  split
  · have h := lay3_z (mMo_F0 m).2.2.2 0 (mMo_F0 m)
    exact ⟨h.1.trans (F0_z m).1, h.2.trans (F0_z m).2⟩
  · have h := layI_z m.2.2.2 0 m
    exact ⟨h.1, congrArg Prod.snd h.2⟩
theorem i32_nn {x : Int32} (h : ¬ x < 0) : x = nI x.toNatClampNeg := by
  obtain ⟨j, hj, e⟩ := nI_of h
  rw [e, nI_clamp hj]
theorem i32_lt_nn {x : Int32} {n : Nat} (h : ¬ x < 0) (hn : n < 2 ^ 31) (k : x < nI n) : x.toNatClampNeg < n := by
  obtain ⟨j, hj, e⟩ := nI_of h
  rw [e] at k ⊢
  rw [nI_clamp hj]
  exact (nI_ltI hj hn).mp k
theorem nI_m1 {n : Nat} (h : 1 ≤ n) : nI n - 1 = nI (n - 1) := by
  obtain ⟨m, rfl⟩ : ∃ m, n = m + 1 := ⟨n - 1, by omega⟩
  exact nI_pred m
section XS4
variable {X : xz_X} {cA : ClassId} {own : String} {cc : ByteArray} {nL : Nat} {ret : Option FieldType} {R : Room} {ws : va_W} {k n pc : Nat} {L : List (Nat × Value)} {st : List Value}
theorem xs_if_le {x : Int32} {off : Int} {t : Nat} (d : decode cc pc = .ok (.ifCond .le off, 3)) (ht : (pc : Int) + off = (t : Int)) (kt : x ≤ 0 → xs X cA own cc nL ret R ws k n t L st) (kf : ¬ x ≤ 0 → xs X cA own cc nL ret R ws k n (pc + 3) L st) : xs X cA own cc nL ret R ws k n pc L (.int x :: st) :=
  xs_br (fun S a b => lv_if_le S.1 S.2.1 d ht a b) kt kf
theorem xs_oif_lt {o : Option Nat} {off : Int} {t : Nat} (d : decode cc pc = .ok (.ifCond .lt off, 3)) (ht : (pc : Int) + off = (t : Int)) (ho : ∀ i, o = some i → i < 2 ^ 31) (kt : o = none → xs X cA own cc nL ret R ws k n t L st) (kf : ∀ i, o = some i → xs X cA own cc nL ret R ws k n (pc + 3) L st) : xs X cA own cc nL ret R ws k n pc L (.int (zo o) :: st) :=
  xs_if_lt d ht (fun h => kt ((zo_lt ho).mp h)) (fun h => by
    cases hc : o with
    | none => exact absurd ((zo_lt ho).mpr hc) h
    | some i => exact kf i hc)
theorem xs_oif_ge {o : Option Nat} {off : Int} {t : Nat} (d : decode cc pc = .ok (.ifCond .ge off, 3)) (ht : (pc : Int) + off = (t : Int)) (ho : ∀ i, o = some i → i < 2 ^ 31) (kt : ∀ i, o = some i → xs X cA own cc nL ret R ws k n t L st) (kf : o = none → xs X cA own cc nL ret R ws k n (pc + 3) L st) : xs X cA own cc nL ret R ws k n pc L (.int (zo o) :: st) :=
  xs_if_ge d ht (fun h => by
    cases hc : o with
    | none =>
      rw [hc] at h
      exact absurd h (by decide)
    | some i => exact kt i hc) (fun h => kf (by
    cases hc : o with
    | none => rfl
    | some i =>
      rw [hc] at h
      exact absurd (nI_pos' (ho i hc)) h))
theorem xs_dup2 {va vb : Value} (d : decode cc pc = .ok (.dup2, 1)) (ha : va.category = 1) (hb : vb.category = 1) (kk : xs X cA own cc nL ret R ws k n (pc + 1) L (va :: vb :: va :: vb :: st)) : xs X cA own cc nL ret R ws k n pc L (va :: vb :: st) :=
  xs_op (fun S _ K => lv_dup2_11 S.1 S.2.1 d ha hb K) kk
theorem xs_dup_x2 {va vb vd : Value} (d : decode cc pc = .ok (.dup_x2, 1)) (ha : va.category = 1) (hb : vb.category = 1) (hd : vd.category = 1) (kk : xs X cA own cc nL ret R ws k n (pc + 1) L (va :: vb :: vd :: va :: st)) : xs X cA own cc nL ret R ws k n pc L (va :: vb :: vd :: st) :=
  xs_op (fun S _ K => lv_dup_x2 S.1 S.2.1 d ha hb hd K) kk
theorem xs_lload {i : Nat} {x : Int64} (j : Nat) (d : decode cc pc = .ok (.lload i, 2)) (h : L[j]? = some (i, .long x)) (kk : xs X cA own cc nL ret R ws k n (pc + 2) L (.long x :: st)) : xs X cA own cc nL ret R ws k n pc L st :=
  xs_op (fun S hl K => lv_lload S.1 S.2.1 d (lv_at hl j h) K) kk
theorem xs_lstore {i : Nat} {x : Int64} {L' : List (Nat × Value)} (d : decode cc pc = .ok (.lstore i, 2)) (hn : i + 1 < nL) (hl : (i, Value.long x) :: L.filter (fun q => !(q.1 == i) && (!(q.1 == i + 1) && !(q.1 + 1 == i && q.2.category == 2))) = L') (kk : xs X cA own cc nL ret R ws k n (pc + 2) L' st) : xs X cA own cc nL ret R ws k n pc L (.long x :: st) :=
  xs_lo (fun S h K => lv_lstore S.1 S.2.1 d h hn hl K) kk
end XS4
end
section
/-- the cells of the reference -/
def wm (am : Nat → Nat) (cA : ClassId) (s : zM) : va_W := [
  (am 0, .inr (4, [.int (s.1 4 0), .int (s.1 4 1), .int (s.1 4 2), .int (s.1 4 3), .int (s.1 4 4), .int (nI s.2.2.2), .ref (am 1), .ref (am 2), .ref (am 3), .ref (am 4)])),
  (am 1, .inl (cA, 2000, .inl (s.1 0))),
  (am 2, .inl (cA, 2000, .inl (s.1 1))),
  (am 3, .inl (cA, 2000, .inl (fun q => zq (s.2.1 q)))),
  (am 4, .inl (cA, 8192, .inl (fun q => nI (s.2.2.1 q))))]
theorem fl_Mo_failed : Cond.fieldLink RX4 26 "BinMapModel" "failed" "I" ∈ xt_tbl := xt_of (by decide +kernel) rfl
theorem g_Mo_failed {X : xz_X} {cA : ClassId} {am : Nat → Nat} {cc : ByteArray} {nL : Nat} {ret : Option FieldType} {R : Room} {s : zM} {k n pc : Nat} {L : List (Nat × Value)} {st : List Value} (d : decode cc pc = .ok (.getfield 26, 3)) (kk : xs X cA RX4 cc nL ret R (wm am cA s) k n (pc + 3) L (.int (s.1 4 0) :: st)) : xs X cA RX4 cc nL ret R (wm am cA s) k n pc L (.ref (am 0) :: st) :=
  xs_get (C := RX4) (T := TX4) (N := 10) 0 0 d rfl rfl (xt_u iX4) (by decide) fl_Mo_failed rfl rfl kk
theorem p_Mo_failed {X : xz_X} {cA : ClassId} {am : Nat → Nat} {cc : ByteArray} {nL : Nat} {ret : Option FieldType} {R : Room} {s : zM} {k n pc : Nat} {L : List (Nat × Value)} {st : List Value} {x : Int32} (d : decode cc pc = .ok (.putfield 26, 3)) (kk : xs X cA RX4 cc nL ret R (wm am cA (y1 s 4 0 x)) k n (pc + 3) L st) : xs X cA RX4 cc nL ret R (wm am cA s) k n pc L (.int x :: .ref (am 0) :: st) :=
  xs_put (C := RX4) (T := TX4) (N := 10) (ty := .int) 0 0 tyX4 d rfl rfl (xt_u iX4) tyX4_ok nmX4 (by decide) fl_Mo_failed rfl rfl (by decide +kernel) rfl rfl (Nat.le_of_ble_eq_true rfl) rfl kk
theorem fl_Mo_mode : Cond.fieldLink RX4 36 "BinMapModel" "mode" "I" ∈ xt_tbl := xt_of (by decide +kernel) rfl
theorem g_Mo_mode {X : xz_X} {cA : ClassId} {am : Nat → Nat} {cc : ByteArray} {nL : Nat} {ret : Option FieldType} {R : Room} {s : zM} {k n pc : Nat} {L : List (Nat × Value)} {st : List Value} (d : decode cc pc = .ok (.getfield 36, 3)) (kk : xs X cA RX4 cc nL ret R (wm am cA s) k n (pc + 3) L (.int (s.1 4 1) :: st)) : xs X cA RX4 cc nL ret R (wm am cA s) k n pc L (.ref (am 0) :: st) :=
  xs_get (C := RX4) (T := TX4) (N := 10) 0 1 d rfl rfl (xt_u iX4) (by decide) fl_Mo_mode rfl rfl kk
theorem p_Mo_mode {X : xz_X} {cA : ClassId} {am : Nat → Nat} {cc : ByteArray} {nL : Nat} {ret : Option FieldType} {R : Room} {s : zM} {k n pc : Nat} {L : List (Nat × Value)} {st : List Value} {x : Int32} (d : decode cc pc = .ok (.putfield 36, 3)) (kk : xs X cA RX4 cc nL ret R (wm am cA (y1 s 4 1 x)) k n (pc + 3) L st) : xs X cA RX4 cc nL ret R (wm am cA s) k n pc L (.int x :: .ref (am 0) :: st) :=
  xs_put (C := RX4) (T := TX4) (N := 10) (ty := .int) 0 1 tyX4 d rfl rfl (xt_u iX4) tyX4_ok nmX4 (by decide) fl_Mo_mode rfl rfl (by decide +kernel) rfl rfl (Nat.le_of_ble_eq_true rfl) rfl kk
theorem fl_Mo_function : Cond.fieldLink RX4 39 "BinMapModel" "function" "I" ∈ xt_tbl := xt_of (by decide +kernel) rfl
theorem g_Mo_function {X : xz_X} {cA : ClassId} {am : Nat → Nat} {cc : ByteArray} {nL : Nat} {ret : Option FieldType} {R : Room} {s : zM} {k n pc : Nat} {L : List (Nat × Value)} {st : List Value} (d : decode cc pc = .ok (.getfield 39, 3)) (kk : xs X cA RX4 cc nL ret R (wm am cA s) k n (pc + 3) L (.int (s.1 4 2) :: st)) : xs X cA RX4 cc nL ret R (wm am cA s) k n pc L (.ref (am 0) :: st) :=
  xs_get (C := RX4) (T := TX4) (N := 10) 0 2 d rfl rfl (xt_u iX4) (by decide) fl_Mo_function rfl rfl kk
theorem p_Mo_function {X : xz_X} {cA : ClassId} {am : Nat → Nat} {cc : ByteArray} {nL : Nat} {ret : Option FieldType} {R : Room} {s : zM} {k n pc : Nat} {L : List (Nat × Value)} {st : List Value} {x : Int32} (d : decode cc pc = .ok (.putfield 39, 3)) (kk : xs X cA RX4 cc nL ret R (wm am cA (y1 s 4 2 x)) k n (pc + 3) L st) : xs X cA RX4 cc nL ret R (wm am cA s) k n pc L (.int x :: .ref (am 0) :: st) :=
  xs_put (C := RX4) (T := TX4) (N := 10) (ty := .int) 0 2 tyX4 d rfl rfl (xt_u iX4) tyX4_ok nmX4 (by decide) fl_Mo_function rfl rfl (by decide +kernel) rfl rfl (Nat.le_of_ble_eq_true rfl) rfl kk
theorem fl_Mo_most : Cond.fieldLink RX4 42 "BinMapModel" "most" "I" ∈ xt_tbl := xt_of (by decide +kernel) rfl
theorem g_Mo_most {X : xz_X} {cA : ClassId} {am : Nat → Nat} {cc : ByteArray} {nL : Nat} {ret : Option FieldType} {R : Room} {s : zM} {k n pc : Nat} {L : List (Nat × Value)} {st : List Value} (d : decode cc pc = .ok (.getfield 42, 3)) (kk : xs X cA RX4 cc nL ret R (wm am cA s) k n (pc + 3) L (.int (s.1 4 3) :: st)) : xs X cA RX4 cc nL ret R (wm am cA s) k n pc L (.ref (am 0) :: st) :=
  xs_get (C := RX4) (T := TX4) (N := 10) 0 3 d rfl rfl (xt_u iX4) (by decide) fl_Mo_most rfl rfl kk
theorem p_Mo_most {X : xz_X} {cA : ClassId} {am : Nat → Nat} {cc : ByteArray} {nL : Nat} {ret : Option FieldType} {R : Room} {s : zM} {k n pc : Nat} {L : List (Nat × Value)} {st : List Value} {x : Int32} (d : decode cc pc = .ok (.putfield 42, 3)) (kk : xs X cA RX4 cc nL ret R (wm am cA (y1 s 4 3 x)) k n (pc + 3) L st) : xs X cA RX4 cc nL ret R (wm am cA s) k n pc L (.int x :: .ref (am 0) :: st) :=
  xs_put (C := RX4) (T := TX4) (N := 10) (ty := .int) 0 3 tyX4 d rfl rfl (xt_u iX4) tyX4_ok nmX4 (by decide) fl_Mo_most rfl rfl (by decide +kernel) rfl rfl (Nat.le_of_ble_eq_true rfl) rfl kk
theorem fl_Mo_room : Cond.fieldLink RX4 7 "BinMapModel" "room" "I" ∈ xt_tbl := xt_of (by decide +kernel) rfl
theorem g_Mo_room {X : xz_X} {cA : ClassId} {am : Nat → Nat} {cc : ByteArray} {nL : Nat} {ret : Option FieldType} {R : Room} {s : zM} {k n pc : Nat} {L : List (Nat × Value)} {st : List Value} (d : decode cc pc = .ok (.getfield 7, 3)) (kk : xs X cA RX4 cc nL ret R (wm am cA s) k n (pc + 3) L (.int (s.1 4 4) :: st)) : xs X cA RX4 cc nL ret R (wm am cA s) k n pc L (.ref (am 0) :: st) :=
  xs_get (C := RX4) (T := TX4) (N := 10) 0 4 d rfl rfl (xt_u iX4) (by decide) fl_Mo_room rfl rfl kk
theorem p_Mo_room {X : xz_X} {cA : ClassId} {am : Nat → Nat} {cc : ByteArray} {nL : Nat} {ret : Option FieldType} {R : Room} {s : zM} {k n pc : Nat} {L : List (Nat × Value)} {st : List Value} {x : Int32} (d : decode cc pc = .ok (.putfield 7, 3)) (kk : xs X cA RX4 cc nL ret R (wm am cA (y1 s 4 4 x)) k n (pc + 3) L st) : xs X cA RX4 cc nL ret R (wm am cA s) k n pc L (.int x :: .ref (am 0) :: st) :=
  xs_put (C := RX4) (T := TX4) (N := 10) (ty := .int) 0 4 tyX4 d rfl rfl (xt_u iX4) tyX4_ok nmX4 (by decide) fl_Mo_room rfl rfl (by decide +kernel) rfl rfl (Nat.le_of_ble_eq_true rfl) rfl kk
theorem fl_Mo_size : Cond.fieldLink RX4 33 "BinMapModel" "size" "I" ∈ xt_tbl := xt_of (by decide +kernel) rfl
theorem g_Mo_size {X : xz_X} {cA : ClassId} {am : Nat → Nat} {cc : ByteArray} {nL : Nat} {ret : Option FieldType} {R : Room} {s : zM} {k n pc : Nat} {L : List (Nat × Value)} {st : List Value} (d : decode cc pc = .ok (.getfield 33, 3)) (kk : xs X cA RX4 cc nL ret R (wm am cA s) k n (pc + 3) L (.int (nI s.2.2.2) :: st)) : xs X cA RX4 cc nL ret R (wm am cA s) k n pc L (.ref (am 0) :: st) :=
  xs_get (C := RX4) (T := TX4) (N := 10) 0 5 d rfl rfl (xt_u iX4) (by decide) fl_Mo_size rfl rfl kk
theorem p_Mo_size {X : xz_X} {cA : ClassId} {am : Nat → Nat} {cc : ByteArray} {nL : Nat} {ret : Option FieldType} {R : Room} {s : zM} {k n pc : Nat} {L : List (Nat × Value)} {st : List Value} {x : Nat} (d : decode cc pc = .ok (.putfield 33, 3)) (kk : xs X cA RX4 cc nL ret R (wm am cA (yz s x)) k n (pc + 3) L st) : xs X cA RX4 cc nL ret R (wm am cA s) k n pc L (.int (nI x) :: .ref (am 0) :: st) :=
  xs_put (C := RX4) (T := TX4) (N := 10) (ty := .int) 0 5 tyX4 d rfl rfl (xt_u iX4) tyX4_ok nmX4 (by decide) fl_Mo_size rfl rfl (by decide +kernel) rfl rfl (Nat.le_of_ble_eq_true rfl) rfl kk
theorem fl_Mo_keys : Cond.fieldLink RX4 13 "BinMapModel" "keys" "[I" ∈ xt_tbl := xt_of (by decide +kernel) rfl
theorem g_Mo_keys {X : xz_X} {cA : ClassId} {am : Nat → Nat} {cc : ByteArray} {nL : Nat} {ret : Option FieldType} {R : Room} {s : zM} {k n pc : Nat} {L : List (Nat × Value)} {st : List Value} (d : decode cc pc = .ok (.getfield 13, 3)) (kk : xs X cA RX4 cc nL ret R (wm am cA s) k n (pc + 3) L (.ref (am 1) :: st)) : xs X cA RX4 cc nL ret R (wm am cA s) k n pc L (.ref (am 0) :: st) :=
  xs_get (C := RX4) (T := TX4) (N := 10) 0 6 d rfl rfl (xt_u iX4) (by decide) fl_Mo_keys rfl rfl kk
theorem fl_Mo_numbers : Cond.fieldLink RX4 17 "BinMapModel" "numbers" "[I" ∈ xt_tbl := xt_of (by decide +kernel) rfl
theorem g_Mo_numbers {X : xz_X} {cA : ClassId} {am : Nat → Nat} {cc : ByteArray} {nL : Nat} {ret : Option FieldType} {R : Room} {s : zM} {k n pc : Nat} {L : List (Nat × Value)} {st : List Value} (d : decode cc pc = .ok (.getfield 17, 3)) (kk : xs X cA RX4 cc nL ret R (wm am cA s) k n (pc + 3) L (.ref (am 2) :: st)) : xs X cA RX4 cc nL ret R (wm am cA s) k n pc L (.ref (am 0) :: st) :=
  xs_get (C := RX4) (T := TX4) (N := 10) 0 7 d rfl rfl (xt_u iX4) (by decide) fl_Mo_numbers rfl rfl kk
theorem fl_Mo_order : Cond.fieldLink RX4 20 "BinMapModel" "order" "[I" ∈ xt_tbl := xt_of (by decide +kernel) rfl
theorem g_Mo_order {X : xz_X} {cA : ClassId} {am : Nat → Nat} {cc : ByteArray} {nL : Nat} {ret : Option FieldType} {R : Room} {s : zM} {k n pc : Nat} {L : List (Nat × Value)} {st : List Value} (d : decode cc pc = .ok (.getfield 20, 3)) (kk : xs X cA RX4 cc nL ret R (wm am cA s) k n (pc + 3) L (.ref (am 3) :: st)) : xs X cA RX4 cc nL ret R (wm am cA s) k n pc L (.ref (am 0) :: st) :=
  xs_get (C := RX4) (T := TX4) (N := 10) 0 8 d rfl rfl (xt_u iX4) (by decide) fl_Mo_order rfl rfl kk
theorem fl_Mo_heads : Cond.fieldLink RX4 23 "BinMapModel" "heads" "[I" ∈ xt_tbl := xt_of (by decide +kernel) rfl
theorem g_Mo_heads {X : xz_X} {cA : ClassId} {am : Nat → Nat} {cc : ByteArray} {nL : Nat} {ret : Option FieldType} {R : Room} {s : zM} {k n pc : Nat} {L : List (Nat × Value)} {st : List Value} (d : decode cc pc = .ok (.getfield 23, 3)) (kk : xs X cA RX4 cc nL ret R (wm am cA s) k n (pc + 3) L (.ref (am 4) :: st)) : xs X cA RX4 cc nL ret R (wm am cA s) k n pc L (.ref (am 0) :: st) :=
  xs_get (C := RX4) (T := TX4) (N := 10) 0 9 d rfl rfl (xt_u iX4) (by decide) fl_Mo_heads rfl rfl kk
theorem aln_M0 {X : xz_X} {cA : ClassId} {am : Nat → Nat} {own : String} {cc : ByteArray} {nL : Nat} {ret : Option FieldType} {R : Room} {s : zM} {k n pc : Nat} {L : List (Nat × Value)} {st : List Value} {i : Nat} (d : decode cc pc = .ok (.iaload, 1)) (hi : i < 2000) (kk : xs X cA own cc nL ret R (wm am cA s) k n (pc + 1) L (.int (s.1 0 i) :: st)) : xs X cA own cc nL ret R (wm am cA s) k n pc L (.int (nI i) :: .ref (am 1) :: st) :=
  xs_iald (N := 2000) 1 d rfl (vp_in_nI hi (by decide)) (by rw [nI_clamp (Nat.lt_trans hi (by decide))]) kk
theorem asn_M0 {X : xz_X} {cA : ClassId} {am : Nat → Nat} {own : String} {cc : ByteArray} {nL : Nat} {ret : Option FieldType} {R : Room} {s : zM} {k n pc : Nat} {L : List (Nat × Value)} {st : List Value} {i : Nat} {x : Int32} (d : decode cc pc = .ok (.iastore, 1)) (hi : i < 2000) (kk : xs X cA own cc nL ret R (wm am cA (y1 s 0 i x)) k n (pc + 1) L st) : xs X cA own cc nL ret R (wm am cA s) k n pc L (.int (x) :: .int (nI i) :: .ref (am 1) :: st) :=
  xs_iast (N := 2000) 1 d rfl (vp_in_nI hi (by decide)) (by rw [nI_clamp (Nat.lt_trans hi (by decide)), up_zm]; rfl) kk
theorem alq_M0 {X : xz_X} {cA : ClassId} {am : Nat → Nat} {own : String} {cc : ByteArray} {nL : Nat} {ret : Option FieldType} {R : Room} {s : zM} {k n pc : Nat} {L : List (Nat × Value)} {st : List Value} {i : Fin 2000} (d : decode cc pc = .ok (.iaload, 1)) (kk : xs X cA own cc nL ret R (wm am cA s) k n (pc + 1) L (.int (s.1 0 i.val) :: st)) : xs X cA own cc nL ret R (wm am cA s) k n pc L (.int (zq i) :: .ref (am 1) :: st) :=
  xs_iald (N := 2000) 1 d rfl (zq_in i) (by rw [zq_clamp]) kk
theorem asq_M0 {X : xz_X} {cA : ClassId} {am : Nat → Nat} {own : String} {cc : ByteArray} {nL : Nat} {ret : Option FieldType} {R : Room} {s : zM} {k n pc : Nat} {L : List (Nat × Value)} {st : List Value} {i : Fin 2000} {x : Int32} (d : decode cc pc = .ok (.iastore, 1)) (kk : xs X cA own cc nL ret R (wm am cA (y1 s 0 i.val x)) k n (pc + 1) L st) : xs X cA own cc nL ret R (wm am cA s) k n pc L (.int (x) :: .int (zq i) :: .ref (am 1) :: st) :=
  xs_iast (N := 2000) 1 d rfl (zq_in i) (by rw [zq_clamp, up_zm]; rfl) kk
theorem aln_M1 {X : xz_X} {cA : ClassId} {am : Nat → Nat} {own : String} {cc : ByteArray} {nL : Nat} {ret : Option FieldType} {R : Room} {s : zM} {k n pc : Nat} {L : List (Nat × Value)} {st : List Value} {i : Nat} (d : decode cc pc = .ok (.iaload, 1)) (hi : i < 2000) (kk : xs X cA own cc nL ret R (wm am cA s) k n (pc + 1) L (.int (s.1 1 i) :: st)) : xs X cA own cc nL ret R (wm am cA s) k n pc L (.int (nI i) :: .ref (am 2) :: st) :=
  xs_iald (N := 2000) 2 d rfl (vp_in_nI hi (by decide)) (by rw [nI_clamp (Nat.lt_trans hi (by decide))]) kk
theorem asn_M1 {X : xz_X} {cA : ClassId} {am : Nat → Nat} {own : String} {cc : ByteArray} {nL : Nat} {ret : Option FieldType} {R : Room} {s : zM} {k n pc : Nat} {L : List (Nat × Value)} {st : List Value} {i : Nat} {x : Int32} (d : decode cc pc = .ok (.iastore, 1)) (hi : i < 2000) (kk : xs X cA own cc nL ret R (wm am cA (y1 s 1 i x)) k n (pc + 1) L st) : xs X cA own cc nL ret R (wm am cA s) k n pc L (.int (x) :: .int (nI i) :: .ref (am 2) :: st) :=
  xs_iast (N := 2000) 2 d rfl (vp_in_nI hi (by decide)) (by rw [nI_clamp (Nat.lt_trans hi (by decide)), up_zm]; rfl) kk
theorem alq_M1 {X : xz_X} {cA : ClassId} {am : Nat → Nat} {own : String} {cc : ByteArray} {nL : Nat} {ret : Option FieldType} {R : Room} {s : zM} {k n pc : Nat} {L : List (Nat × Value)} {st : List Value} {i : Fin 2000} (d : decode cc pc = .ok (.iaload, 1)) (kk : xs X cA own cc nL ret R (wm am cA s) k n (pc + 1) L (.int (s.1 1 i.val) :: st)) : xs X cA own cc nL ret R (wm am cA s) k n pc L (.int (zq i) :: .ref (am 2) :: st) :=
  xs_iald (N := 2000) 2 d rfl (zq_in i) (by rw [zq_clamp]) kk
theorem asq_M1 {X : xz_X} {cA : ClassId} {am : Nat → Nat} {own : String} {cc : ByteArray} {nL : Nat} {ret : Option FieldType} {R : Room} {s : zM} {k n pc : Nat} {L : List (Nat × Value)} {st : List Value} {i : Fin 2000} {x : Int32} (d : decode cc pc = .ok (.iastore, 1)) (kk : xs X cA own cc nL ret R (wm am cA (y1 s 1 i.val x)) k n (pc + 1) L st) : xs X cA own cc nL ret R (wm am cA s) k n pc L (.int (x) :: .int (zq i) :: .ref (am 2) :: st) :=
  xs_iast (N := 2000) 2 d rfl (zq_in i) (by rw [zq_clamp, up_zm]; rfl) kk
theorem aln_O {X : xz_X} {cA : ClassId} {am : Nat → Nat} {own : String} {cc : ByteArray} {nL : Nat} {ret : Option FieldType} {R : Room} {s : zM} {k n pc : Nat} {L : List (Nat × Value)} {st : List Value} {i : Nat} (d : decode cc pc = .ok (.iaload, 1)) (hi : i < 2000) (kk : xs X cA own cc nL ret R (wm am cA s) k n (pc + 1) L (.int (zq (s.2.1 i)) :: st)) : xs X cA own cc nL ret R (wm am cA s) k n pc L (.int (nI i) :: .ref (am 3) :: st) :=
  xs_iald (N := 2000) 3 d rfl (vp_in_nI hi (by decide)) (by rw [nI_clamp (Nat.lt_trans hi (by decide))]) kk
theorem asn_O {X : xz_X} {cA : ClassId} {am : Nat → Nat} {own : String} {cc : ByteArray} {nL : Nat} {ret : Option FieldType} {R : Room} {s : zM} {k n pc : Nat} {L : List (Nat × Value)} {st : List Value} {i : Nat} {x : Fin 2000} (d : decode cc pc = .ok (.iastore, 1)) (hi : i < 2000) (kk : xs X cA own cc nL ret R (wm am cA (yo s i x)) k n (pc + 1) L st) : xs X cA own cc nL ret R (wm am cA s) k n pc L (.int (zq x) :: .int (nI i) :: .ref (am 3) :: st) :=
  xs_iast (N := 2000) 3 d rfl (vp_in_nI hi (by decide)) (by rw [nI_clamp (Nat.lt_trans hi (by decide)), up_zq]; rfl) kk
theorem aln_H {X : xz_X} {cA : ClassId} {am : Nat → Nat} {own : String} {cc : ByteArray} {nL : Nat} {ret : Option FieldType} {R : Room} {s : zM} {k n pc : Nat} {L : List (Nat × Value)} {st : List Value} {i : Nat} (d : decode cc pc = .ok (.iaload, 1)) (hi : i < 8192) (kk : xs X cA own cc nL ret R (wm am cA s) k n (pc + 1) L (.int (nI (s.2.2.1 i)) :: st)) : xs X cA own cc nL ret R (wm am cA s) k n pc L (.int (nI i) :: .ref (am 4) :: st) :=
  xs_iald (N := 8192) 4 d rfl (vp_in_nI hi (by decide)) (by rw [nI_clamp (Nat.lt_trans hi (by decide))]) kk
theorem asn_H {X : xz_X} {cA : ClassId} {am : Nat → Nat} {own : String} {cc : ByteArray} {nL : Nat} {ret : Option FieldType} {R : Room} {s : zM} {k n pc : Nat} {L : List (Nat × Value)} {st : List Value} {i : Nat} {x : Nat} (d : decode cc pc = .ok (.iastore, 1)) (hi : i < 8192) (kk : xs X cA own cc nL ret R (wm am cA (yh s i x)) k n (pc + 1) L st) : xs X cA own cc nL ret R (wm am cA s) k n pc L (.int (nI x) :: .int (nI i) :: .ref (am 4) :: st) :=
  xs_iast (N := 8192) 4 d rfl (vp_in_nI hi (by decide)) (by rw [nI_clamp (Nat.lt_trans hi (by decide)), up_zn]; rfl) kk
theorem al_H {X : xz_X} {cA : ClassId} {am : Nat → Nat} {own : String} {cc : ByteArray} {nL : Nat} {ret : Option FieldType} {R : Room} {s : zM} {k n pc : Nat} {L : List (Nat × Value)} {st : List Value} {i : zP} (d : decode cc pc = .ok (.iaload, 1)) (kk : xs X cA own cc nL ret R (wm am cA s) k n (pc + 1) L (.int (nI (s.2.2.1 i.val)) :: st)) : xs X cA own cc nL ret R (wm am cA s) k n pc L (.int (zp i) :: .ref (am 4) :: st) :=
  xs_iald (N := 8192) 4 d rfl (vp_in_nI (Nat.lt_trans i.isLt (by decide)) (by decide)) (by rw [zp_clamp]) kk
theorem as_H {X : xz_X} {cA : ClassId} {am : Nat → Nat} {own : String} {cc : ByteArray} {nL : Nat} {ret : Option FieldType} {R : Room} {s : zM} {k n pc : Nat} {L : List (Nat × Value)} {st : List Value} {i : zP} {x : Nat} (d : decode cc pc = .ok (.iastore, 1)) (kk : xs X cA own cc nL ret R (wm am cA (yh s i.val x)) k n (pc + 1) L st) : xs X cA own cc nL ret R (wm am cA s) k n pc L (.int (nI x) :: .int (zp i) :: .ref (am 4) :: st) :=
  xs_iast (N := 8192) 4 d rfl (vp_in_nI (Nat.lt_trans i.isLt (by decide)) (by decide)) (by rw [zp_clamp, up_zn]; rfl) kk
end
section
theorem dX4_init_0 : decode cX4_init 0 = .ok (.aload_n 0, 1) := by decide +kernel
theorem dX4_init_1 : decode cX4_init 1 = .ok (.invokespecial 1, 3) := by decide +kernel
theorem dX4_init_4 : decode cX4_init 4 = .ok (.aload_n 0, 1) := by decide +kernel
theorem dX4_init_5 : decode cX4_init 5 = .ok (.bipush 16, 2) := by decide +kernel
theorem dX4_init_7 : decode cX4_init 7 = .ok (.putfield 7, 3) := by decide +kernel
theorem dX4_init_10 : decode cX4_init 10 = .ok (.aload_n 0, 1) := by decide +kernel
theorem dX4_init_11 : decode cX4_init 11 = .ok (.sipush 2000, 3) := by decide +kernel
theorem dX4_init_14 : decode cX4_init 14 = .ok (.newarray .int, 2) := by decide +kernel
theorem dX4_init_16 : decode cX4_init 16 = .ok (.putfield 13, 3) := by decide +kernel
theorem dX4_init_19 : decode cX4_init 19 = .ok (.aload_n 0, 1) := by decide +kernel
theorem dX4_init_20 : decode cX4_init 20 = .ok (.sipush 2000, 3) := by decide +kernel
theorem dX4_init_23 : decode cX4_init 23 = .ok (.newarray .int, 2) := by decide +kernel
theorem dX4_init_25 : decode cX4_init 25 = .ok (.putfield 17, 3) := by decide +kernel
theorem dX4_init_28 : decode cX4_init 28 = .ok (.aload_n 0, 1) := by decide +kernel
theorem dX4_init_29 : decode cX4_init 29 = .ok (.sipush 2000, 3) := by decide +kernel
theorem dX4_init_32 : decode cX4_init 32 = .ok (.newarray .int, 2) := by decide +kernel
theorem dX4_init_34 : decode cX4_init 34 = .ok (.putfield 20, 3) := by decide +kernel
theorem dX4_init_37 : decode cX4_init 37 = .ok (.aload_n 0, 1) := by decide +kernel
theorem dX4_init_38 : decode cX4_init 38 = .ok (.sipush 8192, 3) := by decide +kernel
theorem dX4_init_41 : decode cX4_init 41 = .ok (.newarray .int, 2) := by decide +kernel
theorem dX4_init_43 : decode cX4_init 43 = .ok (.putfield 23, 3) := by decide +kernel
theorem dX4_init_46 : decode cX4_init 46 = .ok (.return_, 1) := by decide +kernel
theorem dX4_thrown_0 : decode cX4_thrown 0 = .ok (.aload_n 0, 1) := by decide +kernel
theorem dX4_thrown_1 : decode cX4_thrown 1 = .ok (.getfield 26, 3) := by decide +kernel
theorem dX4_thrown_4 : decode cX4_thrown 4 = .ok (.ireturn, 1) := by decide +kernel
theorem dX4_fail_0 : decode cX4_fail 0 = .ok (.aload_n 0, 1) := by decide +kernel
theorem dX4_fail_1 : decode cX4_fail 1 = .ok (.iload_n 1, 1) := by decide +kernel
theorem dX4_fail_2 : decode cX4_fail 2 = .ok (.putfield 26, 3) := by decide +kernel
theorem dX4_fail_5 : decode cX4_fail 5 = .ok (.iconst 0, 1) := by decide +kernel
theorem dX4_fail_6 : decode cX4_fail 6 = .ok (.ireturn, 1) := by decide +kernel
theorem dX4_make_0 : decode cX4_make 0 = .ok (.aload_n 0, 1) := by decide +kernel
theorem dX4_make_1 : decode cX4_make 1 = .ok (.iconst 0, 1) := by decide +kernel
theorem dX4_make_2 : decode cX4_make 2 = .ok (.putfield 26, 3) := by decide +kernel
theorem dX4_make_5 : decode cX4_make 5 = .ok (.iload_n 1, 1) := by decide +kernel
theorem dX4_make_6 : decode cX4_make 6 = .ok (.ifCond .lt 41, 3) := by decide +kernel
theorem dX4_make_9 : decode cX4_make 9 = .ok (.iload_n 1, 1) := by decide +kernel
theorem dX4_make_10 : decode cX4_make 10 = .ok (.iconst 2, 1) := by decide +kernel
theorem dX4_make_11 : decode cX4_make 11 = .ok (.if_icmp .gt 36, 3) := by decide +kernel
theorem dX4_make_14 : decode cX4_make 14 = .ok (.iload_n 2, 1) := by decide +kernel
theorem dX4_make_15 : decode cX4_make 15 = .ok (.ifCond .lt 32, 3) := by decide +kernel
theorem dX4_make_18 : decode cX4_make 18 = .ok (.iload_n 2, 1) := by decide +kernel
theorem dX4_make_19 : decode cX4_make 19 = .ok (.iconst 2, 1) := by decide +kernel
theorem dX4_make_20 : decode cX4_make 20 = .ok (.if_icmp .gt 27, 3) := by decide +kernel
theorem dX4_make_23 : decode cX4_make 23 = .ok (.iload_n 1, 1) := by decide +kernel
theorem dX4_make_24 : decode cX4_make 24 = .ok (.iconst 2, 1) := by decide +kernel
theorem dX4_make_25 : decode cX4_make 25 = .ok (.if_icmp .ne 18, 3) := by decide +kernel
theorem dX4_make_28 : decode cX4_make 28 = .ok (.iload_n 3, 1) := by decide +kernel
theorem dX4_make_29 : decode cX4_make 29 = .ok (.iconst 1, 1) := by decide +kernel
theorem dX4_make_30 : decode cX4_make 30 = .ok (.if_icmp .lt 17, 3) := by decide +kernel
theorem dX4_make_33 : decode cX4_make 33 = .ok (.iload_n 3, 1) := by decide +kernel
theorem dX4_make_34 : decode cX4_make 34 = .ok (.sipush 2000, 3) := by decide +kernel
theorem dX4_make_37 : decode cX4_make 37 = .ok (.if_icmp .le 16, 3) := by decide +kernel
theorem dX4_make_40 : decode cX4_make 40 = .ok (.goto 7, 3) := by decide +kernel
theorem dX4_make_43 : decode cX4_make 43 = .ok (.iload_n 3, 1) := by decide +kernel
theorem dX4_make_44 : decode cX4_make 44 = .ok (.ifCond .eq 9, 3) := by decide +kernel
theorem dX4_make_47 : decode cX4_make 47 = .ok (.aload_n 0, 1) := by decide +kernel
theorem dX4_make_48 : decode cX4_make 48 = .ok (.iconst 1, 1) := by decide +kernel
theorem dX4_make_49 : decode cX4_make 49 = .ok (.invokevirtual 29, 3) := by decide +kernel
theorem dX4_make_52 : decode cX4_make 52 = .ok (.ireturn, 1) := by decide +kernel
theorem dX4_make_53 : decode cX4_make 53 = .ok (.aload_n 0, 1) := by decide +kernel
theorem dX4_make_54 : decode cX4_make 54 = .ok (.getfield 33, 3) := by decide +kernel
theorem dX4_make_57 : decode cX4_make 57 = .ok (.istore 4, 2) := by decide +kernel
theorem dX4_make_59 : decode cX4_make 59 = .ok (.aload_n 0, 1) := by decide +kernel
theorem dX4_make_60 : decode cX4_make 60 = .ok (.iload_n 1, 1) := by decide +kernel
theorem dX4_make_61 : decode cX4_make 61 = .ok (.putfield 36, 3) := by decide +kernel
theorem dX4_make_64 : decode cX4_make 64 = .ok (.aload_n 0, 1) := by decide +kernel
theorem dX4_make_65 : decode cX4_make 65 = .ok (.iload_n 2, 1) := by decide +kernel
theorem dX4_make_66 : decode cX4_make 66 = .ok (.putfield 39, 3) := by decide +kernel
theorem dX4_make_69 : decode cX4_make 69 = .ok (.aload_n 0, 1) := by decide +kernel
theorem dX4_make_70 : decode cX4_make 70 = .ok (.iload_n 3, 1) := by decide +kernel
theorem dX4_make_71 : decode cX4_make 71 = .ok (.putfield 42, 3) := by decide +kernel
theorem dX4_make_74 : decode cX4_make 74 = .ok (.aload_n 0, 1) := by decide +kernel
theorem dX4_make_75 : decode cX4_make 75 = .ok (.bipush 16, 2) := by decide +kernel
theorem dX4_make_77 : decode cX4_make 77 = .ok (.putfield 7, 3) := by decide +kernel
theorem dX4_make_80 : decode cX4_make 80 = .ok (.aload_n 0, 1) := by decide +kernel
theorem dX4_make_81 : decode cX4_make 81 = .ok (.iconst 0, 1) := by decide +kernel
theorem dX4_make_82 : decode cX4_make 82 = .ok (.putfield 33, 3) := by decide +kernel
theorem dX4_make_85 : decode cX4_make 85 = .ok (.iload 4, 2) := by decide +kernel
theorem dX4_make_87 : decode cX4_make 87 = .ok (.ireturn, 1) := by decide +kernel
theorem dX4_at1_0 : decode cX4_at1 0 = .ok (.iconst 0, 1) := by decide +kernel
theorem dX4_at1_1 : decode cX4_at1 1 = .ok (.istore_n 2, 1) := by decide +kernel
theorem dX4_at1_2 : decode cX4_at1 2 = .ok (.iload_n 2, 1) := by decide +kernel
theorem dX4_at1_3 : decode cX4_at1 3 = .ok (.aload_n 0, 1) := by decide +kernel
theorem dX4_at1_4 : decode cX4_at1 4 = .ok (.getfield 33, 3) := by decide +kernel
theorem dX4_at1_7 : decode cX4_at1 7 = .ok (.if_icmp .ge 21, 3) := by decide +kernel
theorem dX4_at1_10 : decode cX4_at1 10 = .ok (.aload_n 0, 1) := by decide +kernel
theorem dX4_at1_11 : decode cX4_at1 11 = .ok (.getfield 13, 3) := by decide +kernel
theorem dX4_at1_14 : decode cX4_at1 14 = .ok (.iload_n 2, 1) := by decide +kernel
theorem dX4_at1_15 : decode cX4_at1 15 = .ok (.iaload, 1) := by decide +kernel
theorem dX4_at1_16 : decode cX4_at1 16 = .ok (.iload_n 1, 1) := by decide +kernel
theorem dX4_at1_17 : decode cX4_at1 17 = .ok (.if_icmp .ne 5, 3) := by decide +kernel
theorem dX4_at1_20 : decode cX4_at1 20 = .ok (.iload_n 2, 1) := by decide +kernel
theorem dX4_at1_21 : decode cX4_at1 21 = .ok (.ireturn, 1) := by decide +kernel
theorem dX4_at1_22 : decode cX4_at1 22 = .ok (.iinc 2 1, 3) := by decide +kernel
theorem dX4_at1_25 : decode cX4_at1 25 = .ok (.goto (-23), 3) := by decide +kernel
theorem dX4_at1_28 : decode cX4_at1 28 = .ok (.iconst (-1), 1) := by decide +kernel
theorem dX4_at1_29 : decode cX4_at1 29 = .ok (.ireturn, 1) := by decide +kernel
theorem dX4_place_0 : decode cX4_place 0 = .ok (.aload_n 0, 1) := by decide +kernel
theorem dX4_place_1 : decode cX4_place 1 = .ok (.getfield 39, 3) := by decide +kernel
theorem dX4_place_4 : decode cX4_place 4 = .ok (.ifCond .ne 7, 3) := by decide +kernel
theorem dX4_place_7 : decode cX4_place 7 = .ok (.iload_n 1, 1) := by decide +kernel
theorem dX4_place_8 : decode cX4_place 8 = .ok (.goto 21, 3) := by decide +kernel
theorem dX4_place_11 : decode cX4_place 11 = .ok (.aload_n 0, 1) := by decide +kernel
theorem dX4_place_12 : decode cX4_place 12 = .ok (.getfield 39, 3) := by decide +kernel
theorem dX4_place_15 : decode cX4_place 15 = .ok (.iconst 1, 1) := by decide +kernel
theorem dX4_place_16 : decode cX4_place 16 = .ok (.if_icmp .ne 9, 3) := by decide +kernel
theorem dX4_place_19 : decode cX4_place 19 = .ok (.iload_n 1, 1) := by decide +kernel
theorem dX4_place_20 : decode cX4_place 20 = .ok (.iconst 3, 1) := by decide +kernel
theorem dX4_place_21 : decode cX4_place 21 = .ok (.iand, 1) := by decide +kernel
theorem dX4_place_22 : decode cX4_place 22 = .ok (.goto 7, 3) := by decide +kernel
theorem dX4_place_25 : decode cX4_place 25 = .ok (.iload_n 1, 1) := by decide +kernel
theorem dX4_place_26 : decode cX4_place 26 = .ok (.ldc 45, 2) := by decide +kernel
theorem dX4_place_28 : decode cX4_place 28 = .ok (.imul, 1) := by decide +kernel
theorem dX4_place_29 : decode cX4_place 29 = .ok (.istore_n 2, 1) := by decide +kernel
theorem dX4_place_30 : decode cX4_place 30 = .ok (.iload_n 2, 1) := by decide +kernel
theorem dX4_place_31 : decode cX4_place 31 = .ok (.iload_n 2, 1) := by decide +kernel
theorem dX4_place_32 : decode cX4_place 32 = .ok (.bipush 16, 2) := by decide +kernel
theorem dX4_place_34 : decode cX4_place 34 = .ok (.iushr, 1) := by decide +kernel
theorem dX4_place_35 : decode cX4_place 35 = .ok (.ixor, 1) := by decide +kernel
theorem dX4_place_36 : decode cX4_place 36 = .ok (.aload_n 0, 1) := by decide +kernel
theorem dX4_place_37 : decode cX4_place 37 = .ok (.getfield 7, 3) := by decide +kernel
theorem dX4_place_40 : decode cX4_place 40 = .ok (.iconst 1, 1) := by decide +kernel
theorem dX4_place_41 : decode cX4_place 41 = .ok (.isub, 1) := by decide +kernel
theorem dX4_place_42 : decode cX4_place 42 = .ok (.iand, 1) := by decide +kernel
theorem dX4_place_43 : decode cX4_place 43 = .ok (.ireturn, 1) := by decide +kernel
theorem dX4_removeAt_0 : decode cX4_removeAt 0 = .ok (.aload_n 0, 1) := by decide +kernel
theorem dX4_removeAt_1 : decode cX4_removeAt 1 = .ok (.dup, 1) := by decide +kernel
theorem dX4_removeAt_2 : decode cX4_removeAt 2 = .ok (.getfield 33, 3) := by decide +kernel
theorem dX4_removeAt_5 : decode cX4_removeAt 5 = .ok (.iconst 1, 1) := by decide +kernel
theorem dX4_removeAt_6 : decode cX4_removeAt 6 = .ok (.isub, 1) := by decide +kernel
theorem dX4_removeAt_7 : decode cX4_removeAt 7 = .ok (.putfield 33, 3) := by decide +kernel
theorem dX4_removeAt_10 : decode cX4_removeAt 10 = .ok (.iload_n 1, 1) := by decide +kernel
theorem dX4_removeAt_11 : decode cX4_removeAt 11 = .ok (.istore_n 2, 1) := by decide +kernel
theorem dX4_removeAt_12 : decode cX4_removeAt 12 = .ok (.iload_n 2, 1) := by decide +kernel
theorem dX4_removeAt_13 : decode cX4_removeAt 13 = .ok (.aload_n 0, 1) := by decide +kernel
theorem dX4_removeAt_14 : decode cX4_removeAt 14 = .ok (.getfield 33, 3) := by decide +kernel
theorem dX4_removeAt_17 : decode cX4_removeAt 17 = .ok (.if_icmp .ge 37, 3) := by decide +kernel
theorem dX4_removeAt_20 : decode cX4_removeAt 20 = .ok (.aload_n 0, 1) := by decide +kernel
theorem dX4_removeAt_21 : decode cX4_removeAt 21 = .ok (.getfield 13, 3) := by decide +kernel
theorem dX4_removeAt_24 : decode cX4_removeAt 24 = .ok (.iload_n 2, 1) := by decide +kernel
theorem dX4_removeAt_25 : decode cX4_removeAt 25 = .ok (.aload_n 0, 1) := by decide +kernel
theorem dX4_removeAt_26 : decode cX4_removeAt 26 = .ok (.getfield 13, 3) := by decide +kernel
theorem dX4_removeAt_29 : decode cX4_removeAt 29 = .ok (.iload_n 2, 1) := by decide +kernel
theorem dX4_removeAt_30 : decode cX4_removeAt 30 = .ok (.iconst 1, 1) := by decide +kernel
theorem dX4_removeAt_31 : decode cX4_removeAt 31 = .ok (.iadd, 1) := by decide +kernel
theorem dX4_removeAt_32 : decode cX4_removeAt 32 = .ok (.iaload, 1) := by decide +kernel
theorem dX4_removeAt_33 : decode cX4_removeAt 33 = .ok (.iastore, 1) := by decide +kernel
theorem dX4_removeAt_34 : decode cX4_removeAt 34 = .ok (.aload_n 0, 1) := by decide +kernel
theorem dX4_removeAt_35 : decode cX4_removeAt 35 = .ok (.getfield 17, 3) := by decide +kernel
theorem dX4_removeAt_38 : decode cX4_removeAt 38 = .ok (.iload_n 2, 1) := by decide +kernel
theorem dX4_removeAt_39 : decode cX4_removeAt 39 = .ok (.aload_n 0, 1) := by decide +kernel
theorem dX4_removeAt_40 : decode cX4_removeAt 40 = .ok (.getfield 17, 3) := by decide +kernel
theorem dX4_removeAt_43 : decode cX4_removeAt 43 = .ok (.iload_n 2, 1) := by decide +kernel
theorem dX4_removeAt_44 : decode cX4_removeAt 44 = .ok (.iconst 1, 1) := by decide +kernel
theorem dX4_removeAt_45 : decode cX4_removeAt 45 = .ok (.iadd, 1) := by decide +kernel
theorem dX4_removeAt_46 : decode cX4_removeAt 46 = .ok (.iaload, 1) := by decide +kernel
theorem dX4_removeAt_47 : decode cX4_removeAt 47 = .ok (.iastore, 1) := by decide +kernel
theorem dX4_removeAt_48 : decode cX4_removeAt 48 = .ok (.iinc 2 1, 3) := by decide +kernel
theorem dX4_removeAt_51 : decode cX4_removeAt 51 = .ok (.goto (-39), 3) := by decide +kernel
theorem dX4_removeAt_54 : decode cX4_removeAt 54 = .ok (.return_, 1) := by decide +kernel
theorem dX4_append_0 : decode cX4_append 0 = .ok (.aload_n 0, 1) := by decide +kernel
theorem dX4_append_1 : decode cX4_append 1 = .ok (.getfield 13, 3) := by decide +kernel
theorem dX4_append_4 : decode cX4_append 4 = .ok (.aload_n 0, 1) := by decide +kernel
theorem dX4_append_5 : decode cX4_append 5 = .ok (.getfield 33, 3) := by decide +kernel
theorem dX4_append_8 : decode cX4_append 8 = .ok (.iload_n 1, 1) := by decide +kernel
theorem dX4_append_9 : decode cX4_append 9 = .ok (.iastore, 1) := by decide +kernel
theorem dX4_append_10 : decode cX4_append 10 = .ok (.aload_n 0, 1) := by decide +kernel
theorem dX4_append_11 : decode cX4_append 11 = .ok (.getfield 17, 3) := by decide +kernel
theorem dX4_append_14 : decode cX4_append 14 = .ok (.aload_n 0, 1) := by decide +kernel
theorem dX4_append_15 : decode cX4_append 15 = .ok (.getfield 33, 3) := by decide +kernel
theorem dX4_append_18 : decode cX4_append 18 = .ok (.iload_n 2, 1) := by decide +kernel
theorem dX4_append_19 : decode cX4_append 19 = .ok (.iastore, 1) := by decide +kernel
theorem dX4_append_20 : decode cX4_append 20 = .ok (.aload_n 0, 1) := by decide +kernel
theorem dX4_append_21 : decode cX4_append 21 = .ok (.dup, 1) := by decide +kernel
theorem dX4_append_22 : decode cX4_append 22 = .ok (.getfield 33, 3) := by decide +kernel
theorem dX4_append_25 : decode cX4_append 25 = .ok (.iconst 1, 1) := by decide +kernel
theorem dX4_append_26 : decode cX4_append 26 = .ok (.iadd, 1) := by decide +kernel
theorem dX4_append_27 : decode cX4_append 27 = .ok (.putfield 33, 3) := by decide +kernel
theorem dX4_append_30 : decode cX4_append 30 = .ok (.return_, 1) := by decide +kernel
theorem dX4_touch_0 : decode cX4_touch 0 = .ok (.aload_n 0, 1) := by decide +kernel
theorem dX4_touch_1 : decode cX4_touch 1 = .ok (.getfield 13, 3) := by decide +kernel
theorem dX4_touch_4 : decode cX4_touch 4 = .ok (.iload_n 1, 1) := by decide +kernel
theorem dX4_touch_5 : decode cX4_touch 5 = .ok (.iaload, 1) := by decide +kernel
theorem dX4_touch_6 : decode cX4_touch 6 = .ok (.istore_n 2, 1) := by decide +kernel
theorem dX4_touch_7 : decode cX4_touch 7 = .ok (.aload_n 0, 1) := by decide +kernel
theorem dX4_touch_8 : decode cX4_touch 8 = .ok (.getfield 17, 3) := by decide +kernel
theorem dX4_touch_11 : decode cX4_touch 11 = .ok (.iload_n 1, 1) := by decide +kernel
theorem dX4_touch_12 : decode cX4_touch 12 = .ok (.iaload, 1) := by decide +kernel
theorem dX4_touch_13 : decode cX4_touch 13 = .ok (.istore_n 3, 1) := by decide +kernel
theorem dX4_touch_14 : decode cX4_touch 14 = .ok (.aload_n 0, 1) := by decide +kernel
theorem dX4_touch_15 : decode cX4_touch 15 = .ok (.iload_n 1, 1) := by decide +kernel
theorem dX4_touch_16 : decode cX4_touch 16 = .ok (.invokevirtual 46, 3) := by decide +kernel
theorem dX4_touch_19 : decode cX4_touch 19 = .ok (.aload_n 0, 1) := by decide +kernel
theorem dX4_touch_20 : decode cX4_touch 20 = .ok (.iload_n 2, 1) := by decide +kernel
theorem dX4_touch_21 : decode cX4_touch 21 = .ok (.iload_n 3, 1) := by decide +kernel
theorem dX4_touch_22 : decode cX4_touch 22 = .ok (.invokevirtual 50, 3) := by decide +kernel
theorem dX4_touch_25 : decode cX4_touch 25 = .ok (.return_, 1) := by decide +kernel
theorem dX4_full_0 : decode cX4_full 0 = .ok (.aload_n 0, 1) := by decide +kernel
theorem dX4_full_1 : decode cX4_full 1 = .ok (.getfield 36, 3) := by decide +kernel
theorem dX4_full_4 : decode cX4_full 4 = .ok (.iconst 2, 1) := by decide +kernel
theorem dX4_full_5 : decode cX4_full 5 = .ok (.if_icmp .ge 25, 3) := by decide +kernel
theorem dX4_full_8 : decode cX4_full 8 = .ok (.aload_n 0, 1) := by decide +kernel
theorem dX4_full_9 : decode cX4_full 9 = .ok (.getfield 33, 3) := by decide +kernel
theorem dX4_full_12 : decode cX4_full 12 = .ok (.sipush 2000, 3) := by decide +kernel
theorem dX4_full_15 : decode cX4_full 15 = .ok (.if_icmp .ne 15, 3) := by decide +kernel
theorem dX4_full_18 : decode cX4_full 18 = .ok (.aload_n 0, 1) := by decide +kernel
theorem dX4_full_19 : decode cX4_full 19 = .ok (.iload_n 1, 1) := by decide +kernel
theorem dX4_full_20 : decode cX4_full 20 = .ok (.invokevirtual 54, 3) := by decide +kernel
theorem dX4_full_23 : decode cX4_full 23 = .ok (.ifCond .ge 7, 3) := by decide +kernel
theorem dX4_full_26 : decode cX4_full 26 = .ok (.iconst 1, 1) := by decide +kernel
theorem dX4_full_27 : decode cX4_full 27 = .ok (.goto 4, 3) := by decide +kernel
theorem dX4_full_30 : decode cX4_full 30 = .ok (.iconst 0, 1) := by decide +kernel
theorem dX4_full_31 : decode cX4_full 31 = .ok (.ireturn, 1) := by decide +kernel
theorem dX4_enter_0 : decode cX4_enter 0 = .ok (.aload_n 0, 1) := by decide +kernel
theorem dX4_enter_1 : decode cX4_enter 1 = .ok (.iload_n 1, 1) := by decide +kernel
theorem dX4_enter_2 : decode cX4_enter 2 = .ok (.invokevirtual 54, 3) := by decide +kernel
theorem dX4_enter_5 : decode cX4_enter 5 = .ok (.istore_n 3, 1) := by decide +kernel
theorem dX4_enter_6 : decode cX4_enter 6 = .ok (.iload_n 3, 1) := by decide +kernel
theorem dX4_enter_7 : decode cX4_enter 7 = .ok (.ifCond .lt 24, 3) := by decide +kernel
theorem dX4_enter_10 : decode cX4_enter 10 = .ok (.aload_n 0, 1) := by decide +kernel
theorem dX4_enter_11 : decode cX4_enter 11 = .ok (.getfield 17, 3) := by decide +kernel
theorem dX4_enter_14 : decode cX4_enter 14 = .ok (.iload_n 3, 1) := by decide +kernel
theorem dX4_enter_15 : decode cX4_enter 15 = .ok (.iload_n 2, 1) := by decide +kernel
theorem dX4_enter_16 : decode cX4_enter 16 = .ok (.iastore, 1) := by decide +kernel
theorem dX4_enter_17 : decode cX4_enter 17 = .ok (.aload_n 0, 1) := by decide +kernel
theorem dX4_enter_18 : decode cX4_enter 18 = .ok (.getfield 36, 3) := by decide +kernel
theorem dX4_enter_21 : decode cX4_enter 21 = .ok (.iconst 2, 1) := by decide +kernel
theorem dX4_enter_22 : decode cX4_enter 22 = .ok (.if_icmp .ne 8, 3) := by decide +kernel
theorem dX4_enter_25 : decode cX4_enter 25 = .ok (.aload_n 0, 1) := by decide +kernel
theorem dX4_enter_26 : decode cX4_enter 26 = .ok (.iload_n 3, 1) := by decide +kernel
theorem dX4_enter_27 : decode cX4_enter 27 = .ok (.invokevirtual 57, 3) := by decide +kernel
theorem dX4_enter_30 : decode cX4_enter 30 = .ok (.return_, 1) := by decide +kernel
theorem dX4_enter_31 : decode cX4_enter 31 = .ok (.aload_n 0, 1) := by decide +kernel
theorem dX4_enter_32 : decode cX4_enter 32 = .ok (.getfield 36, 3) := by decide +kernel
theorem dX4_enter_35 : decode cX4_enter 35 = .ok (.iconst 2, 1) := by decide +kernel
theorem dX4_enter_36 : decode cX4_enter 36 = .ok (.if_icmp .ne 19, 3) := by decide +kernel
theorem dX4_enter_39 : decode cX4_enter 39 = .ok (.aload_n 0, 1) := by decide +kernel
theorem dX4_enter_40 : decode cX4_enter 40 = .ok (.getfield 33, 3) := by decide +kernel
theorem dX4_enter_43 : decode cX4_enter 43 = .ok (.aload_n 0, 1) := by decide +kernel
theorem dX4_enter_44 : decode cX4_enter 44 = .ok (.getfield 42, 3) := by decide +kernel
theorem dX4_enter_47 : decode cX4_enter 47 = .ok (.if_icmp .ne 8, 3) := by decide +kernel
theorem dX4_enter_50 : decode cX4_enter 50 = .ok (.aload_n 0, 1) := by decide +kernel
theorem dX4_enter_51 : decode cX4_enter 51 = .ok (.iconst 0, 1) := by decide +kernel
theorem dX4_enter_52 : decode cX4_enter 52 = .ok (.invokevirtual 46, 3) := by decide +kernel
theorem dX4_enter_55 : decode cX4_enter 55 = .ok (.aload_n 0, 1) := by decide +kernel
theorem dX4_enter_56 : decode cX4_enter 56 = .ok (.iload_n 1, 1) := by decide +kernel
theorem dX4_enter_57 : decode cX4_enter 57 = .ok (.iload_n 2, 1) := by decide +kernel
theorem dX4_enter_58 : decode cX4_enter 58 = .ok (.invokevirtual 50, 3) := by decide +kernel
theorem dX4_enter_61 : decode cX4_enter 61 = .ok (.aload_n 0, 1) := by decide +kernel
theorem dX4_enter_62 : decode cX4_enter 62 = .ok (.getfield 36, 3) := by decide +kernel
theorem dX4_enter_65 : decode cX4_enter 65 = .ok (.ifCond .ne 28, 3) := by decide +kernel
theorem dX4_enter_68 : decode cX4_enter 68 = .ok (.iconst 4, 1) := by decide +kernel
theorem dX4_enter_69 : decode cX4_enter 69 = .ok (.aload_n 0, 1) := by decide +kernel
theorem dX4_enter_70 : decode cX4_enter 70 = .ok (.getfield 33, 3) := by decide +kernel
theorem dX4_enter_73 : decode cX4_enter 73 = .ok (.imul, 1) := by decide +kernel
theorem dX4_enter_74 : decode cX4_enter 74 = .ok (.iconst 3, 1) := by decide +kernel
theorem dX4_enter_75 : decode cX4_enter 75 = .ok (.aload_n 0, 1) := by decide +kernel
theorem dX4_enter_76 : decode cX4_enter 76 = .ok (.getfield 7, 3) := by decide +kernel
theorem dX4_enter_79 : decode cX4_enter 79 = .ok (.imul, 1) := by decide +kernel
theorem dX4_enter_80 : decode cX4_enter 80 = .ok (.if_icmp .le 13, 3) := by decide +kernel
theorem dX4_enter_83 : decode cX4_enter 83 = .ok (.aload_n 0, 1) := by decide +kernel
theorem dX4_enter_84 : decode cX4_enter 84 = .ok (.dup, 1) := by decide +kernel
theorem dX4_enter_85 : decode cX4_enter 85 = .ok (.getfield 7, 3) := by decide +kernel
theorem dX4_enter_88 : decode cX4_enter 88 = .ok (.iconst 2, 1) := by decide +kernel
theorem dX4_enter_89 : decode cX4_enter 89 = .ok (.imul, 1) := by decide +kernel
theorem dX4_enter_90 : decode cX4_enter 90 = .ok (.putfield 7, 3) := by decide +kernel
theorem dX4_enter_93 : decode cX4_enter 93 = .ok (.return_, 1) := by decide +kernel
theorem dX4_put_0 : decode cX4_put 0 = .ok (.aload_n 0, 1) := by decide +kernel
theorem dX4_put_1 : decode cX4_put 1 = .ok (.iconst 0, 1) := by decide +kernel
theorem dX4_put_2 : decode cX4_put 2 = .ok (.putfield 26, 3) := by decide +kernel
theorem dX4_put_5 : decode cX4_put 5 = .ok (.aload_n 0, 1) := by decide +kernel
theorem dX4_put_6 : decode cX4_put 6 = .ok (.iload_n 1, 1) := by decide +kernel
theorem dX4_put_7 : decode cX4_put 7 = .ok (.invokevirtual 60, 3) := by decide +kernel
theorem dX4_put_10 : decode cX4_put 10 = .ok (.ifCond .eq 10, 3) := by decide +kernel
theorem dX4_put_13 : decode cX4_put 13 = .ok (.aload_n 0, 1) := by decide +kernel
theorem dX4_put_14 : decode cX4_put 14 = .ok (.iconst 1, 1) := by decide +kernel
theorem dX4_put_15 : decode cX4_put 15 = .ok (.invokevirtual 29, 3) := by decide +kernel
theorem dX4_put_18 : decode cX4_put 18 = .ok (.i2l, 1) := by decide +kernel
theorem dX4_put_19 : decode cX4_put 19 = .ok (.lreturn, 1) := by decide +kernel
theorem dX4_put_20 : decode cX4_put 20 = .ok (.aload_n 0, 1) := by decide +kernel
theorem dX4_put_21 : decode cX4_put 21 = .ok (.iload_n 1, 1) := by decide +kernel
theorem dX4_put_22 : decode cX4_put 22 = .ok (.invokevirtual 54, 3) := by decide +kernel
theorem dX4_put_25 : decode cX4_put 25 = .ok (.istore_n 3, 1) := by decide +kernel
theorem dX4_put_26 : decode cX4_put 26 = .ok (.iload_n 3, 1) := by decide +kernel
theorem dX4_put_27 : decode cX4_put 27 = .ok (.ifCond .ge 9, 3) := by decide +kernel
theorem dX4_put_30 : decode cX4_put 30 = .ok (.ldc2_w 64, 3) := by decide +kernel
theorem dX4_put_33 : decode cX4_put 33 = .ok (.goto 10, 3) := by decide +kernel
theorem dX4_put_36 : decode cX4_put 36 = .ok (.aload_n 0, 1) := by decide +kernel
theorem dX4_put_37 : decode cX4_put 37 = .ok (.getfield 17, 3) := by decide +kernel
theorem dX4_put_40 : decode cX4_put 40 = .ok (.iload_n 3, 1) := by decide +kernel
theorem dX4_put_41 : decode cX4_put 41 = .ok (.iaload, 1) := by decide +kernel
theorem dX4_put_42 : decode cX4_put 42 = .ok (.i2l, 1) := by decide +kernel
theorem dX4_put_43 : decode cX4_put 43 = .ok (.lstore 4, 2) := by decide +kernel
theorem dX4_put_45 : decode cX4_put 45 = .ok (.aload_n 0, 1) := by decide +kernel
theorem dX4_put_46 : decode cX4_put 46 = .ok (.iload_n 1, 1) := by decide +kernel
theorem dX4_put_47 : decode cX4_put 47 = .ok (.iload_n 2, 1) := by decide +kernel
theorem dX4_put_48 : decode cX4_put 48 = .ok (.invokevirtual 66, 3) := by decide +kernel
theorem dX4_put_51 : decode cX4_put 51 = .ok (.lload 4, 2) := by decide +kernel
theorem dX4_put_53 : decode cX4_put 53 = .ok (.lreturn, 1) := by decide +kernel
theorem dX4_find_0 : decode cX4_find 0 = .ok (.aload_n 0, 1) := by decide +kernel
theorem dX4_find_1 : decode cX4_find 1 = .ok (.iconst 0, 1) := by decide +kernel
theorem dX4_find_2 : decode cX4_find 2 = .ok (.putfield 26, 3) := by decide +kernel
theorem dX4_find_5 : decode cX4_find 5 = .ok (.aload_n 0, 1) := by decide +kernel
theorem dX4_find_6 : decode cX4_find 6 = .ok (.iload_n 1, 1) := by decide +kernel
theorem dX4_find_7 : decode cX4_find 7 = .ok (.invokevirtual 54, 3) := by decide +kernel
theorem dX4_find_10 : decode cX4_find 10 = .ok (.istore_n 3, 1) := by decide +kernel
theorem dX4_find_11 : decode cX4_find 11 = .ok (.iload_n 3, 1) := by decide +kernel
theorem dX4_find_12 : decode cX4_find 12 = .ok (.ifCond .ge 9, 3) := by decide +kernel
theorem dX4_find_15 : decode cX4_find 15 = .ok (.aload_n 0, 1) := by decide +kernel
theorem dX4_find_16 : decode cX4_find 16 = .ok (.iconst 1, 1) := by decide +kernel
theorem dX4_find_17 : decode cX4_find 17 = .ok (.invokevirtual 29, 3) := by decide +kernel
theorem dX4_find_20 : decode cX4_find 20 = .ok (.ireturn, 1) := by decide +kernel
theorem dX4_find_21 : decode cX4_find 21 = .ok (.aload_n 0, 1) := by decide +kernel
theorem dX4_find_22 : decode cX4_find 22 = .ok (.getfield 17, 3) := by decide +kernel
theorem dX4_find_25 : decode cX4_find 25 = .ok (.iload_n 3, 1) := by decide +kernel
theorem dX4_find_26 : decode cX4_find 26 = .ok (.iaload, 1) := by decide +kernel
theorem dX4_find_27 : decode cX4_find 27 = .ok (.istore 4, 2) := by decide +kernel
theorem dX4_find_29 : decode cX4_find 29 = .ok (.iload_n 2, 1) := by decide +kernel
theorem dX4_find_30 : decode cX4_find 30 = .ok (.ifCond .eq 11, 3) := by decide +kernel
theorem dX4_find_33 : decode cX4_find 33 = .ok (.aload_n 0, 1) := by decide +kernel
theorem dX4_find_34 : decode cX4_find 34 = .ok (.iload_n 3, 1) := by decide +kernel
theorem dX4_find_35 : decode cX4_find 35 = .ok (.invokevirtual 46, 3) := by decide +kernel
theorem dX4_find_38 : decode cX4_find 38 = .ok (.goto 16, 3) := by decide +kernel
theorem dX4_find_41 : decode cX4_find 41 = .ok (.aload_n 0, 1) := by decide +kernel
theorem dX4_find_42 : decode cX4_find 42 = .ok (.getfield 36, 3) := by decide +kernel
theorem dX4_find_45 : decode cX4_find 45 = .ok (.iconst 2, 1) := by decide +kernel
theorem dX4_find_46 : decode cX4_find 46 = .ok (.if_icmp .ne 8, 3) := by decide +kernel
theorem dX4_find_49 : decode cX4_find 49 = .ok (.aload_n 0, 1) := by decide +kernel
theorem dX4_find_50 : decode cX4_find 50 = .ok (.iload_n 3, 1) := by decide +kernel
theorem dX4_find_51 : decode cX4_find 51 = .ok (.invokevirtual 57, 3) := by decide +kernel
theorem dX4_find_54 : decode cX4_find 54 = .ok (.iload 4, 2) := by decide +kernel
theorem dX4_find_56 : decode cX4_find 56 = .ok (.ireturn, 1) := by decide +kernel
theorem dX4_has_0 : decode cX4_has 0 = .ok (.aload_n 0, 1) := by decide +kernel
theorem dX4_has_1 : decode cX4_has 1 = .ok (.iconst 0, 1) := by decide +kernel
theorem dX4_has_2 : decode cX4_has 2 = .ok (.putfield 26, 3) := by decide +kernel
theorem dX4_has_5 : decode cX4_has 5 = .ok (.aload_n 0, 1) := by decide +kernel
theorem dX4_has_6 : decode cX4_has 6 = .ok (.iload_n 1, 1) := by decide +kernel
theorem dX4_has_7 : decode cX4_has 7 = .ok (.invokevirtual 54, 3) := by decide +kernel
theorem dX4_has_10 : decode cX4_has 10 = .ok (.ifCond .lt 7, 3) := by decide +kernel
theorem dX4_has_13 : decode cX4_has 13 = .ok (.iconst 1, 1) := by decide +kernel
theorem dX4_has_14 : decode cX4_has 14 = .ok (.goto 4, 3) := by decide +kernel
theorem dX4_has_17 : decode cX4_has 17 = .ok (.iconst 0, 1) := by decide +kernel
theorem dX4_has_18 : decode cX4_has 18 = .ok (.ireturn, 1) := by decide +kernel
theorem dX4_fill_0 : decode cX4_fill 0 = .ok (.aload_n 0, 1) := by decide +kernel
theorem dX4_fill_1 : decode cX4_fill 1 = .ok (.iconst 0, 1) := by decide +kernel
theorem dX4_fill_2 : decode cX4_fill 2 = .ok (.putfield 26, 3) := by decide +kernel
theorem dX4_fill_5 : decode cX4_fill 5 = .ok (.iload_n 3, 1) := by decide +kernel
theorem dX4_fill_6 : decode cX4_fill 6 = .ok (.ifCond .lt 10, 3) := by decide +kernel
theorem dX4_fill_9 : decode cX4_fill 9 = .ok (.iload_n 3, 1) := by decide +kernel
theorem dX4_fill_10 : decode cX4_fill 10 = .ok (.sipush 2000, 3) := by decide +kernel
theorem dX4_fill_13 : decode cX4_fill 13 = .ok (.if_icmp .le 9, 3) := by decide +kernel
theorem dX4_fill_16 : decode cX4_fill 16 = .ok (.aload_n 0, 1) := by decide +kernel
theorem dX4_fill_17 : decode cX4_fill 17 = .ok (.iconst 1, 1) := by decide +kernel
theorem dX4_fill_18 : decode cX4_fill 18 = .ok (.invokevirtual 29, 3) := by decide +kernel
theorem dX4_fill_21 : decode cX4_fill 21 = .ok (.ireturn, 1) := by decide +kernel
theorem dX4_fill_22 : decode cX4_fill 22 = .ok (.iconst 0, 1) := by decide +kernel
theorem dX4_fill_23 : decode cX4_fill 23 = .ok (.istore 4, 2) := by decide +kernel
theorem dX4_fill_25 : decode cX4_fill 25 = .ok (.iload 4, 2) := by decide +kernel
theorem dX4_fill_27 : decode cX4_fill 27 = .ok (.iload_n 3, 1) := by decide +kernel
theorem dX4_fill_28 : decode cX4_fill 28 = .ok (.if_icmp .ge 34, 3) := by decide +kernel
theorem dX4_fill_31 : decode cX4_fill 31 = .ok (.aload_n 0, 1) := by decide +kernel
theorem dX4_fill_32 : decode cX4_fill 32 = .ok (.iload_n 1, 1) := by decide +kernel
theorem dX4_fill_33 : decode cX4_fill 33 = .ok (.iload 4, 2) := by decide +kernel
theorem dX4_fill_35 : decode cX4_fill 35 = .ok (.iload_n 2, 1) := by decide +kernel
theorem dX4_fill_36 : decode cX4_fill 36 = .ok (.imul, 1) := by decide +kernel
theorem dX4_fill_37 : decode cX4_fill 37 = .ok (.iadd, 1) := by decide +kernel
theorem dX4_fill_38 : decode cX4_fill 38 = .ok (.invokevirtual 60, 3) := by decide +kernel
theorem dX4_fill_41 : decode cX4_fill 41 = .ok (.ifCond .ne 21, 3) := by decide +kernel
theorem dX4_fill_44 : decode cX4_fill 44 = .ok (.aload_n 0, 1) := by decide +kernel
theorem dX4_fill_45 : decode cX4_fill 45 = .ok (.iload_n 1, 1) := by decide +kernel
theorem dX4_fill_46 : decode cX4_fill 46 = .ok (.iload 4, 2) := by decide +kernel
theorem dX4_fill_48 : decode cX4_fill 48 = .ok (.iload_n 2, 1) := by decide +kernel
theorem dX4_fill_49 : decode cX4_fill 49 = .ok (.imul, 1) := by decide +kernel
theorem dX4_fill_50 : decode cX4_fill 50 = .ok (.iadd, 1) := by decide +kernel
theorem dX4_fill_51 : decode cX4_fill 51 = .ok (.iload 4, 2) := by decide +kernel
theorem dX4_fill_53 : decode cX4_fill 53 = .ok (.invokevirtual 66, 3) := by decide +kernel
theorem dX4_fill_56 : decode cX4_fill 56 = .ok (.iinc 4 1, 3) := by decide +kernel
theorem dX4_fill_59 : decode cX4_fill 59 = .ok (.goto (-34), 3) := by decide +kernel
theorem dX4_fill_62 : decode cX4_fill 62 = .ok (.aload_n 0, 1) := by decide +kernel
theorem dX4_fill_63 : decode cX4_fill 63 = .ok (.getfield 33, 3) := by decide +kernel
theorem dX4_fill_66 : decode cX4_fill 66 = .ok (.ireturn, 1) := by decide +kernel
theorem dX4_lay_0 : decode cX4_lay 0 = .ok (.aload_n 0, 1) := by decide +kernel
theorem dX4_lay_1 : decode cX4_lay 1 = .ok (.getfield 36, 3) := by decide +kernel
theorem dX4_lay_4 : decode cX4_lay 4 = .ok (.ifCond .le 27, 3) := by decide +kernel
theorem dX4_lay_7 : decode cX4_lay 7 = .ok (.iconst 0, 1) := by decide +kernel
theorem dX4_lay_8 : decode cX4_lay 8 = .ok (.istore_n 1, 1) := by decide +kernel
theorem dX4_lay_9 : decode cX4_lay 9 = .ok (.iload_n 1, 1) := by decide +kernel
theorem dX4_lay_10 : decode cX4_lay 10 = .ok (.aload_n 0, 1) := by decide +kernel
theorem dX4_lay_11 : decode cX4_lay 11 = .ok (.getfield 33, 3) := by decide +kernel
theorem dX4_lay_14 : decode cX4_lay 14 = .ok (.if_icmp .ge 16, 3) := by decide +kernel
theorem dX4_lay_17 : decode cX4_lay 17 = .ok (.aload_n 0, 1) := by decide +kernel
theorem dX4_lay_18 : decode cX4_lay 18 = .ok (.getfield 20, 3) := by decide +kernel
theorem dX4_lay_21 : decode cX4_lay 21 = .ok (.iload_n 1, 1) := by decide +kernel
theorem dX4_lay_22 : decode cX4_lay 22 = .ok (.iload_n 1, 1) := by decide +kernel
theorem dX4_lay_23 : decode cX4_lay 23 = .ok (.iastore, 1) := by decide +kernel
theorem dX4_lay_24 : decode cX4_lay 24 = .ok (.iinc 1 1, 3) := by decide +kernel
theorem dX4_lay_27 : decode cX4_lay 27 = .ok (.goto (-18), 3) := by decide +kernel
theorem dX4_lay_30 : decode cX4_lay 30 = .ok (.return_, 1) := by decide +kernel
theorem dX4_lay_31 : decode cX4_lay 31 = .ok (.iconst 0, 1) := by decide +kernel
theorem dX4_lay_32 : decode cX4_lay 32 = .ok (.istore_n 1, 1) := by decide +kernel
theorem dX4_lay_33 : decode cX4_lay 33 = .ok (.iload_n 1, 1) := by decide +kernel
theorem dX4_lay_34 : decode cX4_lay 34 = .ok (.aload_n 0, 1) := by decide +kernel
theorem dX4_lay_35 : decode cX4_lay 35 = .ok (.getfield 7, 3) := by decide +kernel
theorem dX4_lay_38 : decode cX4_lay 38 = .ok (.if_icmp .ge 16, 3) := by decide +kernel
theorem dX4_lay_41 : decode cX4_lay 41 = .ok (.aload_n 0, 1) := by decide +kernel
theorem dX4_lay_42 : decode cX4_lay 42 = .ok (.getfield 23, 3) := by decide +kernel
theorem dX4_lay_45 : decode cX4_lay 45 = .ok (.iload_n 1, 1) := by decide +kernel
theorem dX4_lay_46 : decode cX4_lay 46 = .ok (.iconst 0, 1) := by decide +kernel
theorem dX4_lay_47 : decode cX4_lay 47 = .ok (.iastore, 1) := by decide +kernel
theorem dX4_lay_48 : decode cX4_lay 48 = .ok (.iinc 1 1, 3) := by decide +kernel
theorem dX4_lay_51 : decode cX4_lay 51 = .ok (.goto (-18), 3) := by decide +kernel
theorem dX4_lay_54 : decode cX4_lay 54 = .ok (.iconst 0, 1) := by decide +kernel
theorem dX4_lay_55 : decode cX4_lay 55 = .ok (.istore_n 1, 1) := by decide +kernel
theorem dX4_lay_56 : decode cX4_lay 56 = .ok (.iload_n 1, 1) := by decide +kernel
theorem dX4_lay_57 : decode cX4_lay 57 = .ok (.aload_n 0, 1) := by decide +kernel
theorem dX4_lay_58 : decode cX4_lay 58 = .ok (.getfield 33, 3) := by decide +kernel
theorem dX4_lay_61 : decode cX4_lay 61 = .ok (.if_icmp .ge 28, 3) := by decide +kernel
theorem dX4_lay_64 : decode cX4_lay 64 = .ok (.aload_n 0, 1) := by decide +kernel
theorem dX4_lay_65 : decode cX4_lay 65 = .ok (.getfield 23, 3) := by decide +kernel
theorem dX4_lay_68 : decode cX4_lay 68 = .ok (.aload_n 0, 1) := by decide +kernel
theorem dX4_lay_69 : decode cX4_lay 69 = .ok (.aload_n 0, 1) := by decide +kernel
theorem dX4_lay_70 : decode cX4_lay 70 = .ok (.getfield 13, 3) := by decide +kernel
theorem dX4_lay_73 : decode cX4_lay 73 = .ok (.iload_n 1, 1) := by decide +kernel
theorem dX4_lay_74 : decode cX4_lay 74 = .ok (.iaload, 1) := by decide +kernel
theorem dX4_lay_75 : decode cX4_lay 75 = .ok (.invokevirtual 69, 3) := by decide +kernel
theorem dX4_lay_78 : decode cX4_lay 78 = .ok (.dup2, 1) := by decide +kernel
theorem dX4_lay_79 : decode cX4_lay 79 = .ok (.iaload, 1) := by decide +kernel
theorem dX4_lay_80 : decode cX4_lay 80 = .ok (.iconst 1, 1) := by decide +kernel
theorem dX4_lay_81 : decode cX4_lay 81 = .ok (.iadd, 1) := by decide +kernel
theorem dX4_lay_82 : decode cX4_lay 82 = .ok (.iastore, 1) := by decide +kernel
theorem dX4_lay_83 : decode cX4_lay 83 = .ok (.iinc 1 1, 3) := by decide +kernel
theorem dX4_lay_86 : decode cX4_lay 86 = .ok (.goto (-30), 3) := by decide +kernel
theorem dX4_lay_89 : decode cX4_lay 89 = .ok (.iconst 0, 1) := by decide +kernel
theorem dX4_lay_90 : decode cX4_lay 90 = .ok (.istore_n 1, 1) := by decide +kernel
theorem dX4_lay_91 : decode cX4_lay 91 = .ok (.iconst 0, 1) := by decide +kernel
theorem dX4_lay_92 : decode cX4_lay 92 = .ok (.istore_n 2, 1) := by decide +kernel
theorem dX4_lay_93 : decode cX4_lay 93 = .ok (.iload_n 2, 1) := by decide +kernel
theorem dX4_lay_94 : decode cX4_lay 94 = .ok (.aload_n 0, 1) := by decide +kernel
theorem dX4_lay_95 : decode cX4_lay 95 = .ok (.getfield 7, 3) := by decide +kernel
theorem dX4_lay_98 : decode cX4_lay 98 = .ok (.if_icmp .ge 27, 3) := by decide +kernel
theorem dX4_lay_101 : decode cX4_lay 101 = .ok (.aload_n 0, 1) := by decide +kernel
theorem dX4_lay_102 : decode cX4_lay 102 = .ok (.getfield 23, 3) := by decide +kernel
theorem dX4_lay_105 : decode cX4_lay 105 = .ok (.iload_n 2, 1) := by decide +kernel
theorem dX4_lay_106 : decode cX4_lay 106 = .ok (.iaload, 1) := by decide +kernel
theorem dX4_lay_107 : decode cX4_lay 107 = .ok (.istore_n 3, 1) := by decide +kernel
theorem dX4_lay_108 : decode cX4_lay 108 = .ok (.aload_n 0, 1) := by decide +kernel
theorem dX4_lay_109 : decode cX4_lay 109 = .ok (.getfield 23, 3) := by decide +kernel
theorem dX4_lay_112 : decode cX4_lay 112 = .ok (.iload_n 2, 1) := by decide +kernel
theorem dX4_lay_113 : decode cX4_lay 113 = .ok (.iload_n 1, 1) := by decide +kernel
theorem dX4_lay_114 : decode cX4_lay 114 = .ok (.iastore, 1) := by decide +kernel
theorem dX4_lay_115 : decode cX4_lay 115 = .ok (.iload_n 1, 1) := by decide +kernel
theorem dX4_lay_116 : decode cX4_lay 116 = .ok (.iload_n 3, 1) := by decide +kernel
theorem dX4_lay_117 : decode cX4_lay 117 = .ok (.iadd, 1) := by decide +kernel
theorem dX4_lay_118 : decode cX4_lay 118 = .ok (.istore_n 1, 1) := by decide +kernel
theorem dX4_lay_119 : decode cX4_lay 119 = .ok (.iinc 2 1, 3) := by decide +kernel
theorem dX4_lay_122 : decode cX4_lay 122 = .ok (.goto (-29), 3) := by decide +kernel
theorem dX4_lay_125 : decode cX4_lay 125 = .ok (.iconst 0, 1) := by decide +kernel
theorem dX4_lay_126 : decode cX4_lay 126 = .ok (.istore_n 2, 1) := by decide +kernel
theorem dX4_lay_127 : decode cX4_lay 127 = .ok (.iload_n 2, 1) := by decide +kernel
theorem dX4_lay_128 : decode cX4_lay 128 = .ok (.aload_n 0, 1) := by decide +kernel
theorem dX4_lay_129 : decode cX4_lay 129 = .ok (.getfield 33, 3) := by decide +kernel
theorem dX4_lay_132 : decode cX4_lay 132 = .ok (.if_icmp .ge 35, 3) := by decide +kernel
theorem dX4_lay_135 : decode cX4_lay 135 = .ok (.aload_n 0, 1) := by decide +kernel
theorem dX4_lay_136 : decode cX4_lay 136 = .ok (.getfield 20, 3) := by decide +kernel
theorem dX4_lay_139 : decode cX4_lay 139 = .ok (.aload_n 0, 1) := by decide +kernel
theorem dX4_lay_140 : decode cX4_lay 140 = .ok (.getfield 23, 3) := by decide +kernel
theorem dX4_lay_143 : decode cX4_lay 143 = .ok (.aload_n 0, 1) := by decide +kernel
theorem dX4_lay_144 : decode cX4_lay 144 = .ok (.aload_n 0, 1) := by decide +kernel
theorem dX4_lay_145 : decode cX4_lay 145 = .ok (.getfield 13, 3) := by decide +kernel
theorem dX4_lay_148 : decode cX4_lay 148 = .ok (.iload_n 2, 1) := by decide +kernel
theorem dX4_lay_149 : decode cX4_lay 149 = .ok (.iaload, 1) := by decide +kernel
theorem dX4_lay_150 : decode cX4_lay 150 = .ok (.invokevirtual 69, 3) := by decide +kernel
theorem dX4_lay_153 : decode cX4_lay 153 = .ok (.dup2, 1) := by decide +kernel
theorem dX4_lay_154 : decode cX4_lay 154 = .ok (.iaload, 1) := by decide +kernel
theorem dX4_lay_155 : decode cX4_lay 155 = .ok (.dup_x2, 1) := by decide +kernel
theorem dX4_lay_156 : decode cX4_lay 156 = .ok (.iconst 1, 1) := by decide +kernel
theorem dX4_lay_157 : decode cX4_lay 157 = .ok (.iadd, 1) := by decide +kernel
theorem dX4_lay_158 : decode cX4_lay 158 = .ok (.iastore, 1) := by decide +kernel
theorem dX4_lay_159 : decode cX4_lay 159 = .ok (.iload_n 2, 1) := by decide +kernel
theorem dX4_lay_160 : decode cX4_lay 160 = .ok (.iastore, 1) := by decide +kernel
theorem dX4_lay_161 : decode cX4_lay 161 = .ok (.iinc 2 1, 3) := by decide +kernel
theorem dX4_lay_164 : decode cX4_lay 164 = .ok (.goto (-37), 3) := by decide +kernel
theorem dX4_lay_167 : decode cX4_lay 167 = .ok (.return_, 1) := by decide +kernel
theorem dX4_at_0 : decode cX4_at 0 = .ok (.aload_n 0, 1) := by decide +kernel
theorem dX4_at_1 : decode cX4_at 1 = .ok (.iconst 0, 1) := by decide +kernel
theorem dX4_at_2 : decode cX4_at 2 = .ok (.putfield 26, 3) := by decide +kernel
theorem dX4_at_5 : decode cX4_at 5 = .ok (.iload_n 1, 1) := by decide +kernel
theorem dX4_at_6 : decode cX4_at 6 = .ok (.ifCond .lt 11, 3) := by decide +kernel
theorem dX4_at_9 : decode cX4_at 9 = .ok (.iload_n 1, 1) := by decide +kernel
theorem dX4_at_10 : decode cX4_at 10 = .ok (.aload_n 0, 1) := by decide +kernel
theorem dX4_at_11 : decode cX4_at 11 = .ok (.getfield 33, 3) := by decide +kernel
theorem dX4_at_14 : decode cX4_at 14 = .ok (.if_icmp .lt 9, 3) := by decide +kernel
theorem dX4_at_17 : decode cX4_at 17 = .ok (.aload_n 0, 1) := by decide +kernel
theorem dX4_at_18 : decode cX4_at 18 = .ok (.iconst 1, 1) := by decide +kernel
theorem dX4_at_19 : decode cX4_at 19 = .ok (.invokevirtual 29, 3) := by decide +kernel
theorem dX4_at_22 : decode cX4_at 22 = .ok (.ireturn, 1) := by decide +kernel
theorem dX4_at_23 : decode cX4_at 23 = .ok (.aload_n 0, 1) := by decide +kernel
theorem dX4_at_24 : decode cX4_at 24 = .ok (.invokevirtual 72, 3) := by decide +kernel
theorem dX4_at_27 : decode cX4_at 27 = .ok (.aload_n 0, 1) := by decide +kernel
theorem dX4_at_28 : decode cX4_at 28 = .ok (.getfield 13, 3) := by decide +kernel
theorem dX4_at_31 : decode cX4_at 31 = .ok (.aload_n 0, 1) := by decide +kernel
theorem dX4_at_32 : decode cX4_at 32 = .ok (.getfield 20, 3) := by decide +kernel
theorem dX4_at_35 : decode cX4_at 35 = .ok (.iload_n 1, 1) := by decide +kernel
theorem dX4_at_36 : decode cX4_at 36 = .ok (.iaload, 1) := by decide +kernel
theorem dX4_at_37 : decode cX4_at 37 = .ok (.iaload, 1) := by decide +kernel
theorem dX4_at_38 : decode cX4_at 38 = .ok (.ireturn, 1) := by decide +kernel
theorem dX4_after_0 : decode cX4_after 0 = .ok (.aload_n 0, 1) := by decide +kernel
theorem dX4_after_1 : decode cX4_after 1 = .ok (.iconst 0, 1) := by decide +kernel
theorem dX4_after_2 : decode cX4_after 2 = .ok (.putfield 26, 3) := by decide +kernel
theorem dX4_after_5 : decode cX4_after 5 = .ok (.aload_n 0, 1) := by decide +kernel
theorem dX4_after_6 : decode cX4_after 6 = .ok (.invokevirtual 72, 3) := by decide +kernel
theorem dX4_after_9 : decode cX4_after 9 = .ok (.iconst 0, 1) := by decide +kernel
theorem dX4_after_10 : decode cX4_after 10 = .ok (.istore_n 2, 1) := by decide +kernel
theorem dX4_after_11 : decode cX4_after 11 = .ok (.iload_n 2, 1) := by decide +kernel
theorem dX4_after_12 : decode cX4_after 12 = .ok (.iconst 1, 1) := by decide +kernel
theorem dX4_after_13 : decode cX4_after 13 = .ok (.iadd, 1) := by decide +kernel
theorem dX4_after_14 : decode cX4_after 14 = .ok (.aload_n 0, 1) := by decide +kernel
theorem dX4_after_15 : decode cX4_after 15 = .ok (.getfield 33, 3) := by decide +kernel
theorem dX4_after_18 : decode cX4_after 18 = .ok (.if_icmp .ge 38, 3) := by decide +kernel
theorem dX4_after_21 : decode cX4_after 21 = .ok (.aload_n 0, 1) := by decide +kernel
theorem dX4_after_22 : decode cX4_after 22 = .ok (.getfield 13, 3) := by decide +kernel
theorem dX4_after_25 : decode cX4_after 25 = .ok (.aload_n 0, 1) := by decide +kernel
theorem dX4_after_26 : decode cX4_after 26 = .ok (.getfield 20, 3) := by decide +kernel
theorem dX4_after_29 : decode cX4_after 29 = .ok (.iload_n 2, 1) := by decide +kernel
theorem dX4_after_30 : decode cX4_after 30 = .ok (.iaload, 1) := by decide +kernel
theorem dX4_after_31 : decode cX4_after 31 = .ok (.iaload, 1) := by decide +kernel
theorem dX4_after_32 : decode cX4_after 32 = .ok (.iload_n 1, 1) := by decide +kernel
theorem dX4_after_33 : decode cX4_after 33 = .ok (.if_icmp .ne 17, 3) := by decide +kernel
theorem dX4_after_36 : decode cX4_after 36 = .ok (.aload_n 0, 1) := by decide +kernel
theorem dX4_after_37 : decode cX4_after 37 = .ok (.getfield 13, 3) := by decide +kernel
theorem dX4_after_40 : decode cX4_after 40 = .ok (.aload_n 0, 1) := by decide +kernel
theorem dX4_after_41 : decode cX4_after 41 = .ok (.getfield 20, 3) := by decide +kernel
theorem dX4_after_44 : decode cX4_after 44 = .ok (.iload_n 2, 1) := by decide +kernel
theorem dX4_after_45 : decode cX4_after 45 = .ok (.iconst 1, 1) := by decide +kernel
theorem dX4_after_46 : decode cX4_after 46 = .ok (.iadd, 1) := by decide +kernel
theorem dX4_after_47 : decode cX4_after 47 = .ok (.iaload, 1) := by decide +kernel
theorem dX4_after_48 : decode cX4_after 48 = .ok (.iaload, 1) := by decide +kernel
theorem dX4_after_49 : decode cX4_after 49 = .ok (.ireturn, 1) := by decide +kernel
theorem dX4_after_50 : decode cX4_after 50 = .ok (.iinc 2 1, 3) := by decide +kernel
theorem dX4_after_53 : decode cX4_after 53 = .ok (.goto (-42), 3) := by decide +kernel
theorem dX4_after_56 : decode cX4_after 56 = .ok (.aload_n 0, 1) := by decide +kernel
theorem dX4_after_57 : decode cX4_after 57 = .ok (.iconst 1, 1) := by decide +kernel
theorem dX4_after_58 : decode cX4_after 58 = .ok (.invokevirtual 29, 3) := by decide +kernel
theorem dX4_after_61 : decode cX4_after 61 = .ok (.ireturn, 1) := by decide +kernel
theorem dX4_size_0 : decode cX4_size 0 = .ok (.aload_n 0, 1) := by decide +kernel
theorem dX4_size_1 : decode cX4_size 1 = .ok (.iconst 0, 1) := by decide +kernel
theorem dX4_size_2 : decode cX4_size 2 = .ok (.putfield 26, 3) := by decide +kernel
theorem dX4_size_5 : decode cX4_size 5 = .ok (.aload_n 0, 1) := by decide +kernel
theorem dX4_size_6 : decode cX4_size 6 = .ok (.getfield 33, 3) := by decide +kernel
theorem dX4_size_9 : decode cX4_size 9 = .ok (.ireturn, 1) := by decide +kernel
theorem dX4_clear_0 : decode cX4_clear 0 = .ok (.aload_n 0, 1) := by decide +kernel
theorem dX4_clear_1 : decode cX4_clear 1 = .ok (.iconst 0, 1) := by decide +kernel
theorem dX4_clear_2 : decode cX4_clear 2 = .ok (.putfield 26, 3) := by decide +kernel
theorem dX4_clear_5 : decode cX4_clear 5 = .ok (.aload_n 0, 1) := by decide +kernel
theorem dX4_clear_6 : decode cX4_clear 6 = .ok (.getfield 33, 3) := by decide +kernel
theorem dX4_clear_9 : decode cX4_clear 9 = .ok (.istore_n 1, 1) := by decide +kernel
theorem dX4_clear_10 : decode cX4_clear 10 = .ok (.aload_n 0, 1) := by decide +kernel
theorem dX4_clear_11 : decode cX4_clear 11 = .ok (.iconst 0, 1) := by decide +kernel
theorem dX4_clear_12 : decode cX4_clear 12 = .ok (.putfield 33, 3) := by decide +kernel
theorem dX4_clear_15 : decode cX4_clear 15 = .ok (.iload_n 1, 1) := by decide +kernel
theorem dX4_clear_16 : decode cX4_clear 16 = .ok (.ireturn, 1) := by decide +kernel
theorem dX4_hash_0 : decode cX4_hash 0 = .ok (.aload_n 0, 1) := by decide +kernel
theorem dX4_hash_1 : decode cX4_hash 1 = .ok (.iconst 0, 1) := by decide +kernel
theorem dX4_hash_2 : decode cX4_hash 2 = .ok (.putfield 26, 3) := by decide +kernel
theorem dX4_hash_5 : decode cX4_hash 5 = .ok (.aload_n 0, 1) := by decide +kernel
theorem dX4_hash_6 : decode cX4_hash 6 = .ok (.invokevirtual 72, 3) := by decide +kernel
theorem dX4_hash_9 : decode cX4_hash 9 = .ok (.iconst 1, 1) := by decide +kernel
theorem dX4_hash_10 : decode cX4_hash 10 = .ok (.istore_n 1, 1) := by decide +kernel
theorem dX4_hash_11 : decode cX4_hash 11 = .ok (.iconst 0, 1) := by decide +kernel
theorem dX4_hash_12 : decode cX4_hash 12 = .ok (.istore_n 2, 1) := by decide +kernel
theorem dX4_hash_13 : decode cX4_hash 13 = .ok (.iload_n 2, 1) := by decide +kernel
theorem dX4_hash_14 : decode cX4_hash 14 = .ok (.aload_n 0, 1) := by decide +kernel
theorem dX4_hash_15 : decode cX4_hash 15 = .ok (.getfield 33, 3) := by decide +kernel
theorem dX4_hash_18 : decode cX4_hash 18 = .ok (.if_icmp .ge 41, 3) := by decide +kernel
theorem dX4_hash_21 : decode cX4_hash 21 = .ok (.bipush 31, 2) := by decide +kernel
theorem dX4_hash_23 : decode cX4_hash 23 = .ok (.bipush 31, 2) := by decide +kernel
theorem dX4_hash_25 : decode cX4_hash 25 = .ok (.iload_n 1, 1) := by decide +kernel
theorem dX4_hash_26 : decode cX4_hash 26 = .ok (.imul, 1) := by decide +kernel
theorem dX4_hash_27 : decode cX4_hash 27 = .ok (.aload_n 0, 1) := by decide +kernel
theorem dX4_hash_28 : decode cX4_hash 28 = .ok (.getfield 13, 3) := by decide +kernel
theorem dX4_hash_31 : decode cX4_hash 31 = .ok (.aload_n 0, 1) := by decide +kernel
theorem dX4_hash_32 : decode cX4_hash 32 = .ok (.getfield 20, 3) := by decide +kernel
theorem dX4_hash_35 : decode cX4_hash 35 = .ok (.iload_n 2, 1) := by decide +kernel
theorem dX4_hash_36 : decode cX4_hash 36 = .ok (.iaload, 1) := by decide +kernel
theorem dX4_hash_37 : decode cX4_hash 37 = .ok (.iaload, 1) := by decide +kernel
theorem dX4_hash_38 : decode cX4_hash 38 = .ok (.iadd, 1) := by decide +kernel
theorem dX4_hash_39 : decode cX4_hash 39 = .ok (.imul, 1) := by decide +kernel
theorem dX4_hash_40 : decode cX4_hash 40 = .ok (.aload_n 0, 1) := by decide +kernel
theorem dX4_hash_41 : decode cX4_hash 41 = .ok (.getfield 17, 3) := by decide +kernel
theorem dX4_hash_44 : decode cX4_hash 44 = .ok (.aload_n 0, 1) := by decide +kernel
theorem dX4_hash_45 : decode cX4_hash 45 = .ok (.getfield 20, 3) := by decide +kernel
theorem dX4_hash_48 : decode cX4_hash 48 = .ok (.iload_n 2, 1) := by decide +kernel
theorem dX4_hash_49 : decode cX4_hash 49 = .ok (.iaload, 1) := by decide +kernel
theorem dX4_hash_50 : decode cX4_hash 50 = .ok (.iaload, 1) := by decide +kernel
theorem dX4_hash_51 : decode cX4_hash 51 = .ok (.iadd, 1) := by decide +kernel
theorem dX4_hash_52 : decode cX4_hash 52 = .ok (.istore_n 1, 1) := by decide +kernel
theorem dX4_hash_53 : decode cX4_hash 53 = .ok (.iinc 2 1, 3) := by decide +kernel
theorem dX4_hash_56 : decode cX4_hash 56 = .ok (.goto (-43), 3) := by decide +kernel
theorem dX4_hash_59 : decode cX4_hash 59 = .ok (.iload_n 1, 1) := by decide +kernel
theorem dX4_hash_60 : decode cX4_hash 60 = .ok (.ireturn, 1) := by decide +kernel
theorem dX4_wrong_0 : decode cX4_wrong 0 = .ok (.aload_n 0, 1) := by decide +kernel
theorem dX4_wrong_1 : decode cX4_wrong 1 = .ok (.iconst 0, 1) := by decide +kernel
theorem dX4_wrong_2 : decode cX4_wrong 2 = .ok (.putfield 26, 3) := by decide +kernel
theorem dX4_wrong_5 : decode cX4_wrong 5 = .ok (.iconst 0, 1) := by decide +kernel
theorem dX4_wrong_6 : decode cX4_wrong 6 = .ok (.ireturn, 1) := by decide +kernel
end
section
abbrev R_Mo_thrown : Room := { frames := 0, cells := 0, slots := 0, locals := 0 }
set_option maxHeartbeats 4000000 in
set_option maxRecDepth 100000 in
theorem c_Mo_thrown (am : Nat → Nat) (cA : ClassId) (s : zM) : xct cA yX4_thrown cX4_thrown 1 (some .int) R_Mo_thrown [.ref (am 0)] (wm am cA s) (some (.int (s.1 4 0))) (wm am cA (s)) := by
  refine xct_of (own := RX4) (by decide) rfl (Nat.le_of_ble_eq_true rfl) (fun X hX => ?_)
  show xs X cA RX4 cX4_thrown 1 (some .int) R_Mo_thrown (wm am cA s) 0 0 0 [(0, .ref (am 0))] []
  refine xs_aload_n 0 dX4_thrown_0 rfl ?_
  refine g_Mo_failed dX4_thrown_1 ?_
  exact xs_iret hX rfl dX4_thrown_4 rfl rfl
theorem k_Mo_thrown {X : xz_X} {cA : ClassId} {own : String} {am : Nat → Nat} {cc : ByteArray} {nL : Nat} {ret : Option FieldType} {R : Room} {s : zM} {pc ix : Nat} {L : List (Nat × Value)} {st : List Value} (d : decode cc pc = .ok (.invokevirtual ix, 3)) (hw : xwV own ix yX4_thrown cX4_thrown 1 (some .int) 0) (hR : xroom R_Mo_thrown 1 R) (hst : (st.map fun v => v.category).sum ≤ 8) (kk : xs X cA own cc nL ret R (wm am cA (s)) 0 0 (pc + 3) L (.int (s.1 4 0) :: st)) : xs X cA own cc nL ret R (wm am cA s) 0 0 pc L (.ref (am 0) :: st) :=
  xs_call 0 (c_Mo_thrown am cA s) rfl rfl d hw hR rfl rfl rfl hst ⟨Nat.zero_le _, Nat.zero_le _⟩ kk
abbrev R_Mo_fail : Room := { frames := 0, cells := 0, slots := 0, locals := 0 }
set_option maxHeartbeats 4000000 in
set_option maxRecDepth 100000 in
theorem c_Mo_fail (am : Nat → Nat) (cA : ClassId) (s : zM) (c : Int32) : xct cA yX4_fail cX4_fail 2 (some .int) R_Mo_fail [.ref (am 0), .int c] (wm am cA s) (some (.int (0))) (wm am cA (y1 s 4 0 c)) := by
  refine xct_of (own := RX4) (by decide) rfl (Nat.le_of_ble_eq_true rfl) (fun X hX => ?_)
  show xs X cA RX4 cX4_fail 2 (some .int) R_Mo_fail (wm am cA s) 0 0 0 [(0, .ref (am 0)), (1, .int c)] []
  refine xs_aload_n 0 dX4_fail_0 rfl ?_
  refine xs_iload_n 1 dX4_fail_1 rfl ?_
  refine p_Mo_failed dX4_fail_2 ?_
  refine xs_iconst (v := 0) dX4_fail_5 (by decide) ?_
  exact xs_iret hX rfl dX4_fail_6 rfl rfl
theorem k_Mo_fail {X : xz_X} {cA : ClassId} {own : String} {am : Nat → Nat} {cc : ByteArray} {nL : Nat} {ret : Option FieldType} {R : Room} {s : zM} {pc ix : Nat} {L : List (Nat × Value)} {st : List Value} {c : Int32} (d : decode cc pc = .ok (.invokevirtual ix, 3)) (hw : xwV own ix yX4_fail cX4_fail 2 (some .int) 1) (hR : xroom R_Mo_fail 2 R) (hst : (st.map fun v => v.category).sum ≤ 8) (kk : xs X cA own cc nL ret R (wm am cA (y1 s 4 0 c)) 0 0 (pc + 3) L (.int (0) :: st)) : xs X cA own cc nL ret R (wm am cA s) 0 0 pc L (.int c :: .ref (am 0) :: st) :=
  xs_call 0 (c_Mo_fail am cA s c) rfl rfl d hw hR rfl rfl rfl hst ⟨Nat.zero_le _, Nat.zero_le _⟩ kk
abbrev R_Mo_at1 : Room := { frames := 0, cells := 0, slots := 0, locals := 0 }
set_option maxHeartbeats 4000000 in
set_option maxRecDepth 100000 in
theorem t_Mo_at1 {X : xz_X} {am : Nat → Nat} {cA : ClassId} {s : zM} {key : Int32} (hz : s.2.2.2 ≤ 2000) : ∀ (n i : Nat), i + n = s.2.2.2 → xfin X cA 0 0 (some (.int (zo (mMo_at1L s key n i)))) (wm am cA (s)) → xs X cA RX4 cX4_at1 3 (some .int) R_Mo_at1 (wm am cA s) 0 0 2 [(2, .int (nI i)), (1, .int key), (0, .ref (am 0))] [] := by
  intro n
  induction n with
  | zero =>
    intro i hi hX
    refine xs_iload_n 0 dX4_at1_2 rfl ?_
    refine xs_aload_n 2 dX4_at1_3 rfl ?_
    refine g_Mo_size dX4_at1_4 ?_
    refine xs_icmp_ge (t := 28) dX4_at1_7 (by decide) (fun c7 => ?_) (fun c7 => ?_)
    · refine xs_iconst (v := (-1)) dX4_at1_28 (by decide) ?_
      exact xs_iret hX rfl dX4_at1_29 rfl rfl
    · exact absurd (kn_le (by omega) (by omega)) c7
  | succ n ih =>
    intro i hi hX
    refine xs_iload_n 0 dX4_at1_2 rfl ?_
    refine xs_aload_n 2 dX4_at1_3 rfl ?_
    refine g_Mo_size dX4_at1_4 ?_
    refine xs_icmp_ge (t := 28) dX4_at1_7 (by decide) (fun c7 => ?_) (fun c7 => ?_)
    · exact absurd c7 (kn_nle (by omega) (by omega))
    · refine xs_aload_n 2 dX4_at1_10 rfl ?_
      refine g_Mo_keys dX4_at1_11 ?_
      refine xs_iload_n 0 dX4_at1_14 rfl ?_
      refine aln_M0 dX4_at1_15 (by omega) ?_
      refine xs_iload_n 1 dX4_at1_16 rfl ?_
      refine xs_icmp_ne (t := 22) dX4_at1_17 (by decide) (fun c17 => ?_) (fun c17 => ?_)
      · refine xs_iinc_n (L' := [(2, _), (1, _), (0, _)]) 0 dX4_at1_22 rfl (by decide) rfl ?_
        refine xs_goto (t := 2) dX4_at1_25 (by decide) ?_
        refine xs_sub (L' := [(2, _), (1, _), (0, _)]) [0, 1, 2] rfl ?_
        exact ih _ (by omega) (by simp only [mMo_at1L, if_neg c7, if_neg c17] at hX; exact hX)
      · refine xs_iload_n 0 dX4_at1_20 rfl ?_
        exact xs_iret hX rfl dX4_at1_21 (by simp only [mMo_at1L, if_neg c7, if_pos c17, zo]) rfl
set_option maxHeartbeats 4000000 in
set_option maxRecDepth 100000 in
theorem c_Mo_at1 (am : Nat → Nat) (cA : ClassId) (s : zM) (key : Int32) (hz : s.2.2.2 ≤ 2000) : xct cA yX4_at1 cX4_at1 3 (some .int) R_Mo_at1 [.ref (am 0), .int key] (wm am cA s) (some (.int (zo (mMo_at1 s key)))) (wm am cA (s)) := by
  refine xct_of (own := RX4) (by decide) rfl (Nat.le_of_ble_eq_true rfl) (fun X hX => ?_)
  show xs X cA RX4 cX4_at1 3 (some .int) R_Mo_at1 (wm am cA s) 0 0 0 [(0, .ref (am 0)), (1, .int key)] []
  refine xs_iconst (v := nI 0) dX4_at1_0 rfl ?_
  refine xs_istore_n (L' := [(2, _), (0, _), (1, _)]) dX4_at1_1 (by decide) rfl ?_
  refine xs_sub (L' := [(2, _), (1, _), (0, _)]) [0, 2, 1] rfl ?_
  exact t_Mo_at1 hz s.2.2.2 0 (Nat.zero_add _) hX
theorem k_Mo_at1 {X : xz_X} {cA : ClassId} {own : String} {am : Nat → Nat} {cc : ByteArray} {nL : Nat} {ret : Option FieldType} {R : Room} {s : zM} {pc ix : Nat} {L : List (Nat × Value)} {st : List Value} {key : Int32} (d : decode cc pc = .ok (.invokevirtual ix, 3)) (hw : xwV own ix yX4_at1 cX4_at1 3 (some .int) 1) (hR : xroom R_Mo_at1 3 R) (hst : (st.map fun v => v.category).sum ≤ 8) (hz : s.2.2.2 ≤ 2000) (kk : xs X cA own cc nL ret R (wm am cA (s)) 0 0 (pc + 3) L (.int (zo (mMo_at1 s key)) :: st)) : xs X cA own cc nL ret R (wm am cA s) 0 0 pc L (.int key :: .ref (am 0) :: st) :=
  xs_call 0 (c_Mo_at1 am cA s key hz) rfl rfl d hw hR rfl rfl rfl hst ⟨Nat.zero_le _, Nat.zero_le _⟩ kk
abbrev R_Mo_place : Room := { frames := 0, cells := 0, slots := 0, locals := 0 }
set_option maxHeartbeats 4000000 in
set_option maxRecDepth 100000 in
theorem c_Mo_place (am : Nat → Nat) (cA : ClassId) (s : zM) (key : Int32) (hr : mrok s) : xct cA yX4_place cX4_place 3 (some .int) R_Mo_place [.ref (am 0), .int key] (wm am cA s) (some (.int (zp (mMo_place s key)))) (wm am cA (s)) := by
  refine xct_of (own := RX4) (by decide) rfl (Nat.le_of_ble_eq_true rfl) (fun X hX => ?_)
  show xs X cA RX4 cX4_place 3 (some .int) R_Mo_place (wm am cA s) 0 0 0 [(0, .ref (am 0)), (1, .int key)] []
  refine xs_aload_n 0 dX4_place_0 rfl ?_
  refine g_Mo_function dX4_place_1 ?_
  refine xs_if_ne (t := 11) dX4_place_4 (by decide) (fun c4 => ?_) (fun c4 => ?_)
  · refine xs_aload_n 0 dX4_place_11 rfl ?_
    refine g_Mo_function dX4_place_12 ?_
    refine xs_iconst (v := 1) dX4_place_15 (by decide) ?_
    refine xs_icmp_ne (t := 25) dX4_place_16 (by decide) (fun c16 => ?_) (fun c16 => ?_)
    · refine xs_iload_n 1 dX4_place_25 rfl ?_
      refine xs_ldc (v := (-1640531527)) dX4_place_26 (xt_of (by decide +kernel) rfl) ?_
      refine xs_imul dX4_place_28 ?_
      refine xs_istore_n (L' := [(2, _), (0, _), (1, _)]) dX4_place_29 (by decide) rfl ?_
      refine xs_iload_n 0 dX4_place_30 rfl ?_
      refine xs_iload_n 0 dX4_place_31 rfl ?_
      refine xs_bipush (v := 16) dX4_place_32 (by decide) ?_
      refine xs_iushr dX4_place_34 ?_
      refine xs_ixor dX4_place_35 ?_
      refine xs_aload_n 1 dX4_place_36 rfl ?_
      refine g_Mo_room dX4_place_37 ?_
      refine xs_iconst (v := 1) dX4_place_40 (by decide) ?_
      refine xs_isub dX4_place_41 ?_
      refine xs_iand dX4_place_42 ?_
      exact xs_iret hX rfl dX4_place_43 (by have h := mplace_eq (key := key) hr; simp only [mMo_code, if_neg c4, if_neg c16] at h; exact h) rfl
    · refine xs_iload_n 1 dX4_place_19 rfl ?_
      refine xs_iconst (v := 3) dX4_place_20 (by decide) ?_
      refine xs_iand dX4_place_21 ?_
      refine xs_goto (t := 29) dX4_place_22 (by decide) ?_
      refine xs_istore_n (L' := [(2, _), (0, _), (1, _)]) dX4_place_29 (by decide) rfl ?_
      refine xs_iload_n 0 dX4_place_30 rfl ?_
      refine xs_iload_n 0 dX4_place_31 rfl ?_
      refine xs_bipush (v := 16) dX4_place_32 (by decide) ?_
      refine xs_iushr dX4_place_34 ?_
      refine xs_ixor dX4_place_35 ?_
      refine xs_aload_n 1 dX4_place_36 rfl ?_
      refine g_Mo_room dX4_place_37 ?_
      refine xs_iconst (v := 1) dX4_place_40 (by decide) ?_
      refine xs_isub dX4_place_41 ?_
      refine xs_iand dX4_place_42 ?_
      exact xs_iret hX rfl dX4_place_43 (by have h := mplace_eq (key := key) hr; simp only [mMo_code, if_neg c4, if_pos c16] at h; exact h) rfl
  · refine xs_iload_n 1 dX4_place_7 rfl ?_
    refine xs_goto (t := 29) dX4_place_8 (by decide) ?_
    refine xs_istore_n (L' := [(2, _), (0, _), (1, _)]) dX4_place_29 (by decide) rfl ?_
    refine xs_iload_n 0 dX4_place_30 rfl ?_
    refine xs_iload_n 0 dX4_place_31 rfl ?_
    refine xs_bipush (v := 16) dX4_place_32 (by decide) ?_
    refine xs_iushr dX4_place_34 ?_
    refine xs_ixor dX4_place_35 ?_
    refine xs_aload_n 1 dX4_place_36 rfl ?_
    refine g_Mo_room dX4_place_37 ?_
    refine xs_iconst (v := 1) dX4_place_40 (by decide) ?_
    refine xs_isub dX4_place_41 ?_
    refine xs_iand dX4_place_42 ?_
    exact xs_iret hX rfl dX4_place_43 (by have h := mplace_eq (key := key) hr; simp only [mMo_code, if_pos c4] at h; exact h) rfl
theorem k_Mo_place {X : xz_X} {cA : ClassId} {own : String} {am : Nat → Nat} {cc : ByteArray} {nL : Nat} {ret : Option FieldType} {R : Room} {s : zM} {pc ix : Nat} {L : List (Nat × Value)} {st : List Value} {key : Int32} (d : decode cc pc = .ok (.invokevirtual ix, 3)) (hw : xwV own ix yX4_place cX4_place 3 (some .int) 1) (hR : xroom R_Mo_place 3 R) (hst : (st.map fun v => v.category).sum ≤ 8) (hr : mrok s) (kk : xs X cA own cc nL ret R (wm am cA (s)) 0 0 (pc + 3) L (.int (zp (mMo_place s key)) :: st)) : xs X cA own cc nL ret R (wm am cA s) 0 0 pc L (.int key :: .ref (am 0) :: st) :=
  xs_call 0 (c_Mo_place am cA s key hr) rfl rfl d hw hR rfl rfl rfl hst ⟨Nat.zero_le _, Nat.zero_le _⟩ kk
abbrev R_Mo_remove : Room := { frames := 0, cells := 0, slots := 0, locals := 0 }
set_option maxHeartbeats 4000000 in
set_option maxRecDepth 100000 in
theorem t_Mo_rem {X : xz_X} {am : Nat → Nat} {cA : ClassId} : ∀ (n i : Nat) (s : zM), i + n = s.2.2.2 → s.2.2.2 < 2000 → xfin X cA 0 0 none (wm am cA (mMo_remL n i s)) → xs X cA RX4 cX4_removeAt 3 none R_Mo_remove (wm am cA s) 0 0 12 [(2, .int (nI i)), (0, .ref (am 0))] [] := by
  intro n
  induction n with
  | zero =>
    intro i s hi hs hX
    refine xs_iload_n 0 dX4_removeAt_12 rfl ?_
    refine xs_aload_n 1 dX4_removeAt_13 rfl ?_
    refine g_Mo_size dX4_removeAt_14 ?_
    refine xs_icmp_ge (t := 54) dX4_removeAt_17 (by decide) (fun c17 => ?_) (fun c17 => ?_)
    · exact xs_vret hX rfl dX4_removeAt_54 rfl
    · exact absurd (kn_le (by omega) (by omega)) c17
  | succ n ih =>
    intro i s hi hs hX
    refine xs_iload_n 0 dX4_removeAt_12 rfl ?_
    refine xs_aload_n 1 dX4_removeAt_13 rfl ?_
    refine g_Mo_size dX4_removeAt_14 ?_
    refine xs_icmp_ge (t := 54) dX4_removeAt_17 (by decide) (fun c17 => ?_) (fun c17 => ?_)
    · exact absurd c17 (kn_nle (by omega) (by omega))
    · refine xs_aload_n 1 dX4_removeAt_20 rfl ?_
      refine g_Mo_keys dX4_removeAt_21 ?_
      refine xs_iload_n 0 dX4_removeAt_24 rfl ?_
      refine xs_aload_n 1 dX4_removeAt_25 rfl ?_
      refine g_Mo_keys dX4_removeAt_26 ?_
      refine xs_iload_n 0 dX4_removeAt_29 rfl ?_
      refine xs_iconst (v := 1) dX4_removeAt_30 (by decide) ?_
      refine xs_iadd dX4_removeAt_31 ?_
      refine xs_top (nI_1 i) ?_
      refine aln_M0 dX4_removeAt_32 (by omega) ?_
      refine asn_M0 dX4_removeAt_33 (by omega) ?_
      refine xs_aload_n 1 dX4_removeAt_34 rfl ?_
      refine g_Mo_numbers dX4_removeAt_35 ?_
      refine xs_iload_n 0 dX4_removeAt_38 rfl ?_
      refine xs_aload_n 1 dX4_removeAt_39 rfl ?_
      refine g_Mo_numbers dX4_removeAt_40 ?_
      refine xs_iload_n 0 dX4_removeAt_43 rfl ?_
      refine xs_iconst (v := 1) dX4_removeAt_44 (by decide) ?_
      refine xs_iadd dX4_removeAt_45 ?_
      refine xs_top (nI_1 i) ?_
      refine aln_M1 dX4_removeAt_46 (by omega) ?_
      refine asn_M1 dX4_removeAt_47 (by omega) ?_
      refine xs_iinc_n (L' := [(2, _), (0, _)]) 0 dX4_removeAt_48 rfl (by decide) rfl ?_
      refine xs_goto (t := 12) dX4_removeAt_51 (by decide) ?_
      refine xs_sub (L' := [(2, _), (0, _)]) [0, 1] rfl ?_
      exact ih _ _ (by show i + 1 + n = s.2.2.2; omega) hs hX
set_option maxHeartbeats 4000000 in
set_option maxRecDepth 100000 in
theorem c_Mo_remove (am : Nat → Nat) (cA : ClassId) (s : zM) (j : Nat) (hz : s.2.2.2 ≤ 2000) (hj : j < s.2.2.2) : xct cA yX4_removeAt cX4_removeAt 3 none R_Mo_remove [.ref (am 0), .int (nI j)] (wm am cA s) none (wm am cA (mMo_remove s j)) := by
  refine xct_of (own := RX4) (by decide) rfl (Nat.le_of_ble_eq_true rfl) (fun X hX => ?_)
  show xs X cA RX4 cX4_removeAt 3 none R_Mo_remove (wm am cA s) 0 0 0 [(0, .ref (am 0)), (1, .int (nI j))] []
  refine xs_aload_n 0 dX4_removeAt_0 rfl ?_
  refine xs_dup dX4_removeAt_1 rfl ?_
  refine g_Mo_size dX4_removeAt_2 ?_
  refine xs_iconst (v := 1) dX4_removeAt_5 (by decide) ?_
  refine xs_isub dX4_removeAt_6 ?_
  refine xs_top (nI_m1 (by omega)) ?_
  refine p_Mo_size dX4_removeAt_7 ?_
  refine xs_iload_n 1 dX4_removeAt_10 rfl ?_
  refine xs_istore_n (L' := [(2, _), (0, _), (1, _)]) dX4_removeAt_11 (by decide) rfl ?_
  refine xs_sub (L' := [(2, _), (0, _)]) [0, 1] rfl ?_
  exact t_Mo_rem (s.2.2.2 - 1 - j) j _ (by show j + (s.2.2.2 - 1 - j) = s.2.2.2 - 1; omega) (by show s.2.2.2 - 1 < 2000; omega) hX
theorem k_Mo_remove {X : xz_X} {cA : ClassId} {own : String} {am : Nat → Nat} {cc : ByteArray} {nL : Nat} {ret : Option FieldType} {R : Room} {s : zM} {pc ix : Nat} {L : List (Nat × Value)} {st : List Value} {j : Nat} (d : decode cc pc = .ok (.invokevirtual ix, 3)) (hw : xwV own ix yX4_removeAt cX4_removeAt 3 none 1) (hR : xroom R_Mo_remove 3 R) (hst : (st.map fun v => v.category).sum ≤ 8) (hz : s.2.2.2 ≤ 2000) (hj : j < s.2.2.2) (kk : xs X cA own cc nL ret R (wm am cA (mMo_remove s j)) 0 0 (pc + 3) L (st)) : xs X cA own cc nL ret R (wm am cA s) 0 0 pc L (.int (nI j) :: .ref (am 0) :: st) :=
  xs_call 0 (c_Mo_remove am cA s j hz hj) rfl rfl d hw hR rfl rfl rfl hst ⟨Nat.zero_le _, Nat.zero_le _⟩ kk
abbrev R_Mo_append : Room := { frames := 0, cells := 0, slots := 0, locals := 0 }
set_option maxHeartbeats 4000000 in
set_option maxRecDepth 100000 in
theorem c_Mo_append (am : Nat → Nat) (cA : ClassId) (s : zM) (key : Int32) (x : Int32) (hz : s.2.2.2 < 2000) : xct cA yX4_append cX4_append 3 none R_Mo_append [.ref (am 0), .int key, .int x] (wm am cA s) none (wm am cA (mMo_append s key x)) := by
  refine xct_of (own := RX4) (by decide) rfl (Nat.le_of_ble_eq_true rfl) (fun X hX => ?_)
  show xs X cA RX4 cX4_append 3 none R_Mo_append (wm am cA s) 0 0 0 [(0, .ref (am 0)), (1, .int key), (2, .int x)] []
  refine xs_aload_n 0 dX4_append_0 rfl ?_
  refine g_Mo_keys dX4_append_1 ?_
  refine xs_aload_n 0 dX4_append_4 rfl ?_
  refine g_Mo_size dX4_append_5 ?_
  refine xs_iload_n 1 dX4_append_8 rfl ?_
  refine asn_M0 dX4_append_9 hz ?_
  refine xs_aload_n 0 dX4_append_10 rfl ?_
  refine g_Mo_numbers dX4_append_11 ?_
  refine xs_aload_n 0 dX4_append_14 rfl ?_
  refine g_Mo_size dX4_append_15 ?_
  refine xs_iload_n 2 dX4_append_18 rfl ?_
  refine asn_M1 dX4_append_19 hz ?_
  refine xs_aload_n 0 dX4_append_20 rfl ?_
  refine xs_dup dX4_append_21 rfl ?_
  refine g_Mo_size dX4_append_22 ?_
  refine xs_iconst (v := 1) dX4_append_25 (by decide) ?_
  refine xs_iadd dX4_append_26 ?_
  refine xs_top (nI_1 _) ?_
  refine p_Mo_size dX4_append_27 ?_
  exact xs_vret hX rfl dX4_append_30 rfl
theorem k_Mo_append {X : xz_X} {cA : ClassId} {own : String} {am : Nat → Nat} {cc : ByteArray} {nL : Nat} {ret : Option FieldType} {R : Room} {s : zM} {pc ix : Nat} {L : List (Nat × Value)} {st : List Value} {key : Int32} {x : Int32} (d : decode cc pc = .ok (.invokevirtual ix, 3)) (hw : xwV own ix yX4_append cX4_append 3 none 2) (hR : xroom R_Mo_append 3 R) (hst : (st.map fun v => v.category).sum ≤ 8) (hz : s.2.2.2 < 2000) (kk : xs X cA own cc nL ret R (wm am cA (mMo_append s key x)) 0 0 (pc + 3) L (st)) : xs X cA own cc nL ret R (wm am cA s) 0 0 pc L (.int x :: .int key :: .ref (am 0) :: st) :=
  xs_call 0 (c_Mo_append am cA s key x hz) rfl rfl d hw hR rfl rfl rfl hst ⟨Nat.zero_le _, Nat.zero_le _⟩ kk
abbrev R_Mo_touch : Room := { frames := 1, cells := 0, slots := 0, locals := 22 }
set_option maxRecDepth 100000 in
theorem kw_Mo_Mo_remove : xwV RX4 46 yX4_removeAt cX4_removeAt 3 none 1 := ⟨⟨xt_of (List.mem_of_getElem? (i := 623) rfl) rfl, xt_of (by decide +kernel) rfl, xt_of (by decide +kernel) rfl, by decide +kernel⟩, xt_of (by decide +kernel) rfl, xt_of (by decide +kernel) rfl⟩
set_option maxRecDepth 100000 in
theorem kw_Mo_Mo_append : xwV RX4 50 yX4_append cX4_append 3 none 2 := ⟨⟨xt_of (List.mem_of_getElem? (i := 627) rfl) rfl, xt_of (by decide +kernel) rfl, xt_of (by decide +kernel) rfl, by decide +kernel⟩, xt_of (by decide +kernel) rfl, xt_of (by decide +kernel) rfl⟩
set_option maxHeartbeats 4000000 in
set_option maxRecDepth 100000 in
theorem c_Mo_touch (am : Nat → Nat) (cA : ClassId) (s : zM) (j : Nat) (hz : s.2.2.2 ≤ 2000) (hj : j < s.2.2.2) : xct cA yX4_touch cX4_touch 4 none R_Mo_touch [.ref (am 0), .int (nI j)] (wm am cA s) none (wm am cA (mMo_touch s j)) := by
  refine xct_of (own := RX4) (by decide) rfl (Nat.le_of_ble_eq_true rfl) (fun X hX => ?_)
  show xs X cA RX4 cX4_touch 4 none R_Mo_touch (wm am cA s) 0 0 0 [(0, .ref (am 0)), (1, .int (nI j))] []
  refine xs_aload_n 0 dX4_touch_0 rfl ?_
  refine g_Mo_keys dX4_touch_1 ?_
  refine xs_iload_n 1 dX4_touch_4 rfl ?_
  refine aln_M0 dX4_touch_5 (by omega) ?_
  refine xs_istore_n (L' := [(2, _), (0, _), (1, _)]) dX4_touch_6 (by decide) rfl ?_
  refine xs_aload_n 1 dX4_touch_7 rfl ?_
  refine g_Mo_numbers dX4_touch_8 ?_
  refine xs_iload_n 2 dX4_touch_11 rfl ?_
  refine aln_M1 dX4_touch_12 (by omega) ?_
  refine xs_istore_n (L' := [(3, _), (2, _), (0, _), (1, _)]) dX4_touch_13 (by decide) rfl ?_
  refine xs_aload_n 2 dX4_touch_14 rfl ?_
  refine xs_iload_n 3 dX4_touch_15 rfl ?_
  refine k_Mo_remove dX4_touch_16 kw_Mo_Mo_remove (by decide) (Nat.le_of_ble_eq_true rfl) hz hj ?_
  refine xs_aload_n 2 dX4_touch_19 rfl ?_
  refine xs_iload_n 1 dX4_touch_20 rfl ?_
  refine xs_iload_n 0 dX4_touch_21 rfl ?_
  refine k_Mo_append dX4_touch_22 kw_Mo_Mo_append (by decide) (Nat.le_of_ble_eq_true rfl) (by rw [rem_z]; omega) ?_
  exact xs_vret hX rfl dX4_touch_25 rfl
theorem k_Mo_touch {X : xz_X} {cA : ClassId} {own : String} {am : Nat → Nat} {cc : ByteArray} {nL : Nat} {ret : Option FieldType} {R : Room} {s : zM} {pc ix : Nat} {L : List (Nat × Value)} {st : List Value} {j : Nat} (d : decode cc pc = .ok (.invokevirtual ix, 3)) (hw : xwV own ix yX4_touch cX4_touch 4 none 1) (hR : xroom R_Mo_touch 4 R) (hst : (st.map fun v => v.category).sum ≤ 8) (hz : s.2.2.2 ≤ 2000) (hj : j < s.2.2.2) (kk : xs X cA own cc nL ret R (wm am cA (mMo_touch s j)) 0 0 (pc + 3) L (st)) : xs X cA own cc nL ret R (wm am cA s) 0 0 pc L (.int (nI j) :: .ref (am 0) :: st) :=
  xs_call 0 (c_Mo_touch am cA s j hz hj) rfl rfl d hw hR rfl rfl rfl hst ⟨Nat.zero_le _, Nat.zero_le _⟩ kk
abbrev R_Mo_full : Room := { frames := 1, cells := 0, slots := 0, locals := 22 }
set_option maxRecDepth 100000 in
theorem kw_Mo_Mo_at1 : xwV RX4 54 yX4_at1 cX4_at1 3 (some .int) 1 := ⟨⟨xt_of (List.mem_of_getElem? (i := 610) rfl) rfl, xt_of (by decide +kernel) rfl, xt_of (by decide +kernel) rfl, by decide +kernel⟩, xt_of (by decide +kernel) rfl, xt_of (by decide +kernel) rfl⟩
set_option maxHeartbeats 4000000 in
set_option maxRecDepth 100000 in
theorem c_Mo_full (am : Nat → Nat) (cA : ClassId) (s : zM) (key : Int32) (hz : s.2.2.2 ≤ 2000) : xct cA yX4_full cX4_full 2 (some .boolean) R_Mo_full [.ref (am 0), .int key] (wm am cA s) (some (.int (zb (mMo_full s key)))) (wm am cA (s)) := by
  refine xct_of (own := RX4) (by decide) rfl (Nat.le_of_ble_eq_true rfl) (fun X hX => ?_)
  show xs X cA RX4 cX4_full 2 (some .boolean) R_Mo_full (wm am cA s) 0 0 0 [(0, .ref (am 0)), (1, .int key)] []
  refine xs_aload_n 0 dX4_full_0 rfl ?_
  refine g_Mo_mode dX4_full_1 ?_
  refine xs_iconst (v := 2) dX4_full_4 (by decide) ?_
  refine xs_icmp_ge (t := 30) dX4_full_5 (by decide) (fun c5 => ?_) (fun c5 => ?_)
  · refine xs_iconst (v := zb false) dX4_full_30 rfl ?_
    exact xs_zret hX rfl dX4_full_31 (by simp [mMo_full, c5]) rfl
  · refine xs_aload_n 0 dX4_full_8 rfl ?_
    refine g_Mo_size dX4_full_9 ?_
    refine xs_sipush (v := 2000) dX4_full_12 (by decide) ?_
    refine xs_icmp_ne (t := 30) dX4_full_15 (by decide) (fun c15 => ?_) (fun c15 => ?_)
    · refine xs_iconst (v := zb false) dX4_full_30 rfl ?_
      exact xs_zret hX rfl dX4_full_31 (by simp [mMo_full, c5, c15]) rfl
    · refine xs_aload_n 0 dX4_full_18 rfl ?_
      refine xs_iload_n 1 dX4_full_19 rfl ?_
      refine k_Mo_at1 dX4_full_20 kw_Mo_Mo_at1 (by decide) (Nat.le_of_ble_eq_true rfl) hz ?_
      refine xs_oif_ge (t := 30) dX4_full_23 (by decide) (fun _ h => Nat.lt_of_lt_of_le (at1_lt h) (Nat.le_trans hz (by decide))) (fun j23 c23 => ?_) (fun c23 => ?_)
      · refine xs_iconst (v := zb false) dX4_full_30 rfl ?_
        exact xs_zret hX rfl dX4_full_31 (by simp [mMo_full, c5, c15, c23]) rfl
      · refine xs_iconst (v := zb true) dX4_full_26 rfl ?_
        refine xs_goto (t := 31) dX4_full_27 (by decide) ?_
        exact xs_zret hX rfl dX4_full_31 (by simp [mMo_full, c5, c15, c23]) rfl
theorem k_Mo_full {X : xz_X} {cA : ClassId} {own : String} {am : Nat → Nat} {cc : ByteArray} {nL : Nat} {ret : Option FieldType} {R : Room} {s : zM} {pc ix : Nat} {L : List (Nat × Value)} {st : List Value} {key : Int32} (d : decode cc pc = .ok (.invokevirtual ix, 3)) (hw : xwV own ix yX4_full cX4_full 2 (some .boolean) 1) (hR : xroom R_Mo_full 2 R) (hst : (st.map fun v => v.category).sum ≤ 8) (hz : s.2.2.2 ≤ 2000) (kk : xs X cA own cc nL ret R (wm am cA (s)) 0 0 (pc + 3) L (.int (zb (mMo_full s key)) :: st)) : xs X cA own cc nL ret R (wm am cA s) 0 0 pc L (.int key :: .ref (am 0) :: st) :=
  xs_call 0 (c_Mo_full am cA s key hz) rfl rfl d hw hR rfl rfl rfl hst ⟨Nat.zero_le _, Nat.zero_le _⟩ kk
abbrev R_Mo_enter : Room := { frames := 2, cells := 0, slots := 0, locals := 45 }
set_option maxRecDepth 100000 in
theorem kw_Mo_Mo_touch : xwV RX4 57 yX4_touch cX4_touch 4 none 1 := ⟨⟨xt_of (List.mem_of_getElem? (i := 619) rfl) rfl, xt_of (by decide +kernel) rfl, xt_of (by decide +kernel) rfl, by decide +kernel⟩, xt_of (by decide +kernel) rfl, xt_of (by decide +kernel) rfl⟩
set_option maxHeartbeats 4000000 in
set_option maxRecDepth 100000 in
theorem t_Mo_ent2 {X : xz_X} {am : Nat → Nat} {cA : ClassId} {key x : Int32} : ∀ (s : zM), s.2.2.2 < 2000 → xfin X cA 0 0 none (wm am cA (mMo_ent2 s key x)) → xs X cA RX4 cX4_enter 4 none R_Mo_enter (wm am cA s) 0 0 55 [(2, .int x), (1, .int key), (0, .ref (am 0))] [] := by
  intro s hz hX
  refine xs_aload_n 2 dX4_enter_55 rfl ?_
  refine xs_iload_n 1 dX4_enter_56 rfl ?_
  refine xs_iload_n 0 dX4_enter_57 rfl ?_
  refine k_Mo_append dX4_enter_58 kw_Mo_Mo_append (by decide) (Nat.le_of_ble_eq_true rfl) hz ?_
  refine xs_aload_n 2 dX4_enter_61 rfl ?_
  refine g_Mo_mode dX4_enter_62 ?_
  refine xs_if_ne (t := 93) dX4_enter_65 (by decide) (fun c65 => ?_) (fun c65 => ?_)
  · exact xs_vret hX rfl dX4_enter_93 (by simp only [mMo_ent2, if_neg c65])
  · refine xs_iconst (v := 4) dX4_enter_68 (by decide) ?_
    refine xs_aload_n 2 dX4_enter_69 rfl ?_
    refine g_Mo_size dX4_enter_70 ?_
    refine xs_imul dX4_enter_73 ?_
    refine xs_iconst (v := 3) dX4_enter_74 (by decide) ?_
    refine xs_aload_n 2 dX4_enter_75 rfl ?_
    refine g_Mo_room dX4_enter_76 ?_
    refine xs_imul dX4_enter_79 ?_
    refine xs_icmp_le (t := 93) dX4_enter_80 (by decide) (fun c80 => ?_) (fun c80 => ?_)
    · exact xs_vret hX rfl dX4_enter_93 (by simp only [mMo_ent2, if_pos c65, if_pos c80])
    · refine xs_aload_n 2 dX4_enter_83 rfl ?_
      refine xs_dup dX4_enter_84 rfl ?_
      refine g_Mo_room dX4_enter_85 ?_
      refine xs_iconst (v := 2) dX4_enter_88 (by decide) ?_
      refine xs_imul dX4_enter_89 ?_
      refine p_Mo_room dX4_enter_90 ?_
      exact xs_vret hX rfl dX4_enter_93 (by simp only [mMo_ent2, if_pos c65, if_neg c80])
set_option maxHeartbeats 4000000 in
set_option maxRecDepth 100000 in
theorem c_Mo_enter (am : Nat → Nat) (cA : ClassId) (s : zM) (key : Int32) (x : Int32) (hz : s.2.2.2 ≤ 2000) (he : entOk s key) : xct cA yX4_enter cX4_enter 4 none R_Mo_enter [.ref (am 0), .int key, .int x] (wm am cA s) none (wm am cA (mMo_enter s key x)) := by
  refine xct_of (own := RX4) (by decide) rfl (Nat.le_of_ble_eq_true rfl) (fun X hX => ?_)
  show xs X cA RX4 cX4_enter 4 none R_Mo_enter (wm am cA s) 0 0 0 [(0, .ref (am 0)), (1, .int key), (2, .int x)] []
  refine xs_aload_n 0 dX4_enter_0 rfl ?_
  refine xs_iload_n 1 dX4_enter_1 rfl ?_
  refine k_Mo_at1 dX4_enter_2 kw_Mo_Mo_at1 (by decide) (Nat.le_of_ble_eq_true rfl) hz ?_
  refine xs_istore_n (L' := [(3, _), (0, _), (1, _), (2, _)]) dX4_enter_5 (by decide) rfl ?_
  refine xs_iload_n 0 dX4_enter_6 rfl ?_
  refine xs_oif_lt (t := 31) dX4_enter_7 (by decide) (fun _ h => Nat.lt_of_lt_of_le (at1_lt h) (Nat.le_trans hz (by decide))) (fun c7 => ?_) (fun j7 c7 => ?_)
  · refine xs_aload_n 1 dX4_enter_31 rfl ?_
    refine g_Mo_mode dX4_enter_32 ?_
    refine xs_iconst (v := 2) dX4_enter_35 (by decide) ?_
    refine xs_icmp_ne (t := 55) dX4_enter_36 (by decide) (fun c36 => ?_) (fun c36 => ?_)
    · refine xs_sub (L' := [(2, _), (1, _), (0, _)]) [3, 2, 1] rfl ?_
      exact t_Mo_ent2 _ (by first | (rw [rem_z]; have h := he c7; rw [if_pos ⟨c36, c47⟩] at h; omega) | (have h := he c7; rw [if_neg (fun q => c36 q.1)] at h; exact h) | (have h := he c7; rw [if_neg (fun q => c47 q.2)] at h; exact h)) (by simp only [mMo_enter, mMo_ent1, c7, if_neg c36] at hX; exact hX)
    · refine xs_aload_n 1 dX4_enter_39 rfl ?_
      refine g_Mo_size dX4_enter_40 ?_
      refine xs_aload_n 1 dX4_enter_43 rfl ?_
      refine g_Mo_most dX4_enter_44 ?_
      refine xs_icmp_ne (t := 55) dX4_enter_47 (by decide) (fun c47 => ?_) (fun c47 => ?_)
      · refine xs_sub (L' := [(2, _), (1, _), (0, _)]) [3, 2, 1] rfl ?_
        exact t_Mo_ent2 _ (by first | (rw [rem_z]; have h := he c7; rw [if_pos ⟨c36, c47⟩] at h; omega) | (have h := he c7; rw [if_neg (fun q => c36 q.1)] at h; exact h) | (have h := he c7; rw [if_neg (fun q => c47 q.2)] at h; exact h)) (by simp only [mMo_enter, mMo_ent1, c7, if_pos c36, if_neg c47] at hX; exact hX)
      · refine xs_aload_n 1 dX4_enter_50 rfl ?_
        refine xs_iconst (v := nI 0) dX4_enter_51 rfl ?_
        refine k_Mo_remove dX4_enter_52 kw_Mo_Mo_remove (by decide) (Nat.le_of_ble_eq_true rfl) hz (by have h := he c7; rw [if_pos ⟨c36, c47⟩] at h; exact h) ?_
        refine xs_sub (L' := [(2, _), (1, _), (0, _)]) [3, 2, 1] rfl ?_
        exact t_Mo_ent2 _ (by first | (rw [rem_z]; have h := he c7; rw [if_pos ⟨c36, c47⟩] at h; omega) | (have h := he c7; rw [if_neg (fun q => c36 q.1)] at h; exact h) | (have h := he c7; rw [if_neg (fun q => c47 q.2)] at h; exact h)) (by simp only [mMo_enter, mMo_ent1, c7, if_pos c36, if_pos c47] at hX; exact hX)
  · simp only [c7, zo]
    refine xs_aload_n 1 dX4_enter_10 rfl ?_
    refine g_Mo_numbers dX4_enter_11 ?_
    refine xs_iload_n 0 dX4_enter_14 rfl ?_
    refine xs_iload_n 3 dX4_enter_15 rfl ?_
    refine asn_M1 dX4_enter_16 (by have := at1_lt c7; omega) ?_
    refine xs_aload_n 1 dX4_enter_17 rfl ?_
    refine g_Mo_mode dX4_enter_18 ?_
    refine xs_iconst (v := 2) dX4_enter_21 (by decide) ?_
    refine xs_icmp_ne (t := 30) dX4_enter_22 (by decide) (fun c22 => ?_) (fun c22 => ?_)
    · exact xs_vret hX rfl dX4_enter_30 (by simp only [mMo_enter, mMo_ent0, c7, if_neg c22])
    · refine xs_aload_n 1 dX4_enter_25 rfl ?_
      refine xs_iload_n 0 dX4_enter_26 rfl ?_
      refine k_Mo_touch dX4_enter_27 kw_Mo_Mo_touch (by decide) (Nat.le_of_ble_eq_true rfl) hz (show j7 < s.2.2.2 from at1_lt c7) ?_
      exact xs_vret hX rfl dX4_enter_30 (by simp only [mMo_enter, mMo_ent0, c7, if_pos c22])
theorem k_Mo_enter {X : xz_X} {cA : ClassId} {own : String} {am : Nat → Nat} {cc : ByteArray} {nL : Nat} {ret : Option FieldType} {R : Room} {s : zM} {pc ix : Nat} {L : List (Nat × Value)} {st : List Value} {key : Int32} {x : Int32} (d : decode cc pc = .ok (.invokevirtual ix, 3)) (hw : xwV own ix yX4_enter cX4_enter 4 none 2) (hR : xroom R_Mo_enter 4 R) (hst : (st.map fun v => v.category).sum ≤ 8) (hz : s.2.2.2 ≤ 2000) (he : entOk s key) (kk : xs X cA own cc nL ret R (wm am cA (mMo_enter s key x)) 0 0 (pc + 3) L (st)) : xs X cA own cc nL ret R (wm am cA s) 0 0 pc L (.int x :: .int key :: .ref (am 0) :: st) :=
  xs_call 0 (c_Mo_enter am cA s key x hz he) rfl rfl d hw hR rfl rfl rfl hst ⟨Nat.zero_le _, Nat.zero_le _⟩ kk
abbrev R_Mo_put : Room := { frames := 3, cells := 0, slots := 0, locals := 68 }
set_option maxRecDepth 100000 in
theorem kw_Mo_Mo_full : xwV RX4 60 yX4_full cX4_full 2 (some .boolean) 1 := ⟨⟨xt_of (List.mem_of_getElem? (i := 606) rfl) rfl, xt_of (by decide +kernel) rfl, xt_of (by decide +kernel) rfl, by decide +kernel⟩, xt_of (by decide +kernel) rfl, xt_of (by decide +kernel) rfl⟩
set_option maxRecDepth 100000 in
theorem kw_Mo_Mo_fail : xwV RX4 29 yX4_fail cX4_fail 2 (some .int) 1 := ⟨⟨xt_of (List.mem_of_getElem? (i := 598) rfl) rfl, xt_of (by decide +kernel) rfl, xt_of (by decide +kernel) rfl, by decide +kernel⟩, xt_of (by decide +kernel) rfl, xt_of (by decide +kernel) rfl⟩
set_option maxRecDepth 100000 in
theorem kw_Mo_Mo_enter : xwV RX4 66 yX4_enter cX4_enter 4 none 2 := ⟨⟨xt_of (List.mem_of_getElem? (i := 615) rfl) rfl, xt_of (by decide +kernel) rfl, xt_of (by decide +kernel) rfl, by decide +kernel⟩, xt_of (by decide +kernel) rfl, xt_of (by decide +kernel) rfl⟩
set_option maxHeartbeats 4000000 in
set_option maxRecDepth 100000 in
theorem c_Mo_put (am : Nat → Nat) (cA : ClassId) (s : zM) (key : Int32) (x : Int32) (hz : s.2.2.2 ≤ 2000) (he : mMo_full (y1 s 4 0 0) key = false → entOk (y1 s 4 0 0) key) : xct cA yX4_put cX4_put 6 (some .long) R_Mo_put [.ref (am 0), .int key, .int x] (wm am cA s) (some (.long ((mMo_put s key x).1))) (wm am cA ((mMo_put s key x).2)) := by
  refine xct_of (own := RX4) (by decide) rfl (Nat.le_of_ble_eq_true rfl) (fun X hX => ?_)
  show xs X cA RX4 cX4_put 6 (some .long) R_Mo_put (wm am cA s) 0 0 0 [(0, .ref (am 0)), (1, .int key), (2, .int x)] []
  refine xs_aload_n 0 dX4_put_0 rfl ?_
  refine xs_iconst (v := 0) dX4_put_1 (by decide) ?_
  refine p_Mo_failed dX4_put_2 ?_
  refine xs_aload_n 0 dX4_put_5 rfl ?_
  refine xs_iload_n 1 dX4_put_6 rfl ?_
  refine k_Mo_full dX4_put_7 kw_Mo_Mo_full (by decide) (Nat.le_of_ble_eq_true rfl) hz ?_
  refine xs_bif_eq (t := 20) dX4_put_10 (by decide) (fun c10 => ?_) (fun c10 => ?_)
  · refine xs_aload_n 0 dX4_put_20 rfl ?_
    refine xs_iload_n 1 dX4_put_21 rfl ?_
    refine k_Mo_at1 dX4_put_22 kw_Mo_Mo_at1 (by decide) (Nat.le_of_ble_eq_true rfl) hz ?_
    refine xs_istore_n (L' := [(3, _), (0, _), (1, _), (2, _)]) dX4_put_25 (by decide) rfl ?_
    refine xs_iload_n 0 dX4_put_26 rfl ?_
    refine xs_oif_ge (t := 36) dX4_put_27 (by decide) (fun _ h => Nat.lt_of_lt_of_le (at1_lt h) (Nat.le_trans hz (by decide))) (fun j27 c27 => ?_) (fun c27 => ?_)
    · simp only [c27, zo]
      refine xs_aload_n 1 dX4_put_36 rfl ?_
      refine g_Mo_numbers dX4_put_37 ?_
      refine xs_iload_n 0 dX4_put_40 rfl ?_
      refine aln_M1 dX4_put_41 (Nat.lt_of_lt_of_le (at1_lt c27) hz) ?_
      refine xs_i2l dX4_put_42 ?_
      refine xs_lstore (L' := [(4, _), (3, _), (0, _), (1, _), (2, _)]) dX4_put_43 (by decide) rfl ?_
      refine xs_aload_n 2 dX4_put_45 rfl ?_
      refine xs_iload_n 3 dX4_put_46 rfl ?_
      refine xs_iload_n 4 dX4_put_47 rfl ?_
      refine k_Mo_enter dX4_put_48 kw_Mo_Mo_enter (by decide) (Nat.le_of_ble_eq_true rfl) hz (he c10) ?_
      refine xs_lload 0 dX4_put_51 rfl ?_
      exact xs_lret hX rfl dX4_put_53 (by simp only [mMo_put, c10, ↓reduceIte, Bool.false_eq_true, c27]) (by simp only [mMo_put, c10, ↓reduceIte, Bool.false_eq_true, c27])
    · refine xs_ldc2 (v := 4294967296) dX4_put_30 (xt_of (by decide +kernel) rfl) ?_
      refine xs_goto (t := 43) dX4_put_33 (by decide) ?_
      refine xs_lstore (L' := [(4, _), (3, _), (0, _), (1, _), (2, _)]) dX4_put_43 (by decide) rfl ?_
      refine xs_aload_n 2 dX4_put_45 rfl ?_
      refine xs_iload_n 3 dX4_put_46 rfl ?_
      refine xs_iload_n 4 dX4_put_47 rfl ?_
      refine k_Mo_enter dX4_put_48 kw_Mo_Mo_enter (by decide) (Nat.le_of_ble_eq_true rfl) hz (he c10) ?_
      refine xs_lload 0 dX4_put_51 rfl ?_
      exact xs_lret hX rfl dX4_put_53 (by simp only [mMo_put, c10, ↓reduceIte, Bool.false_eq_true, c27]) (by simp only [mMo_put, c10, ↓reduceIte, Bool.false_eq_true, c27])
  · refine xs_aload_n 0 dX4_put_13 rfl ?_
    refine xs_iconst (v := 1) dX4_put_14 (by decide) ?_
    refine k_Mo_fail dX4_put_15 kw_Mo_Mo_fail (by decide) (Nat.le_of_ble_eq_true rfl) ?_
    refine xs_i2l dX4_put_18 ?_
    exact xs_lret hX rfl dX4_put_19 (by simp only [mMo_put, c10, ↓reduceIte, Bool.false_eq_true]) (by simp only [mMo_put, c10, ↓reduceIte, Bool.false_eq_true])
theorem k_Mo_put {X : xz_X} {cA : ClassId} {own : String} {am : Nat → Nat} {cc : ByteArray} {nL : Nat} {ret : Option FieldType} {R : Room} {s : zM} {pc ix : Nat} {L : List (Nat × Value)} {st : List Value} {key : Int32} {x : Int32} (d : decode cc pc = .ok (.invokevirtual ix, 3)) (hw : xwV own ix yX4_put cX4_put 6 (some .long) 2) (hR : xroom R_Mo_put 6 R) (hst : (st.map fun v => v.category).sum ≤ 8) (hz : s.2.2.2 ≤ 2000) (he : mMo_full (y1 s 4 0 0) key = false → entOk (y1 s 4 0 0) key) (kk : xs X cA own cc nL ret R (wm am cA ((mMo_put s key x).2)) 0 0 (pc + 3) L (.long ((mMo_put s key x).1) :: st)) : xs X cA own cc nL ret R (wm am cA s) 0 0 pc L (.int x :: .int key :: .ref (am 0) :: st) :=
  xs_call 0 (c_Mo_put am cA s key x hz he) rfl rfl d hw hR rfl rfl rfl hst ⟨Nat.zero_le _, Nat.zero_le _⟩ kk
abbrev R_Mo_find : Room := { frames := 2, cells := 0, slots := 0, locals := 45 }
set_option maxHeartbeats 4000000 in
set_option maxRecDepth 100000 in
theorem c_Mo_find (am : Nat → Nat) (cA : ClassId) (s : zM) (key : Int32) (tk : Bool) (hz : s.2.2.2 ≤ 2000) : xct cA yX4_find cX4_find 5 (some .int) R_Mo_find [.ref (am 0), .int key, .int (zb tk)] (wm am cA s) (some (.int ((mMo_find s key tk).1))) (wm am cA ((mMo_find s key tk).2)) := by
  refine xct_of (own := RX4) (by decide) rfl (Nat.le_of_ble_eq_true rfl) (fun X hX => ?_)
  show xs X cA RX4 cX4_find 5 (some .int) R_Mo_find (wm am cA s) 0 0 0 [(0, .ref (am 0)), (1, .int key), (2, .int (zb tk))] []
  refine xs_aload_n 0 dX4_find_0 rfl ?_
  refine xs_iconst (v := 0) dX4_find_1 (by decide) ?_
  refine p_Mo_failed dX4_find_2 ?_
  refine xs_aload_n 0 dX4_find_5 rfl ?_
  refine xs_iload_n 1 dX4_find_6 rfl ?_
  refine k_Mo_at1 dX4_find_7 kw_Mo_Mo_at1 (by decide) (Nat.le_of_ble_eq_true rfl) hz ?_
  refine xs_istore_n (L' := [(3, _), (0, _), (1, _), (2, _)]) dX4_find_10 (by decide) rfl ?_
  refine xs_iload_n 0 dX4_find_11 rfl ?_
  refine xs_oif_ge (t := 21) dX4_find_12 (by decide) (fun _ h => Nat.lt_of_lt_of_le (at1_lt h) (Nat.le_trans hz (by decide))) (fun j12 c12 => ?_) (fun c12 => ?_)
  · simp only [c12, zo]
    refine xs_aload_n 1 dX4_find_21 rfl ?_
    refine g_Mo_numbers dX4_find_22 ?_
    refine xs_iload_n 0 dX4_find_25 rfl ?_
    refine aln_M1 dX4_find_26 (Nat.lt_of_lt_of_le (at1_lt c12) hz) ?_
    refine xs_istore (L' := [(4, _), (3, _), (0, _), (1, _), (2, _)]) dX4_find_27 (by decide) rfl ?_
    refine xs_iload_n 4 dX4_find_29 rfl ?_
    refine xs_bif_eq (t := 41) dX4_find_30 (by decide) (fun c30 => ?_) (fun c30 => ?_)
    · refine xs_aload_n 2 dX4_find_41 rfl ?_
      refine g_Mo_mode dX4_find_42 ?_
      refine xs_iconst (v := 2) dX4_find_45 (by decide) ?_
      refine xs_icmp_ne (t := 54) dX4_find_46 (by decide) (fun c46 => ?_) (fun c46 => ?_)
      · refine xs_iload 0 dX4_find_54 rfl ?_
        exact xs_iret hX rfl dX4_find_56 (by simp only [mMo_find, c12, c30, ↓reduceIte, Bool.false_eq_true, if_neg c46]) (by simp only [mMo_find, c12, c30, ↓reduceIte, Bool.false_eq_true, if_neg c46])
      · refine xs_aload_n 2 dX4_find_49 rfl ?_
        refine xs_iload_n 1 dX4_find_50 rfl ?_
        refine k_Mo_touch dX4_find_51 kw_Mo_Mo_touch (by decide) (Nat.le_of_ble_eq_true rfl) hz (at1_lt c12) ?_
        refine xs_iload 0 dX4_find_54 rfl ?_
        exact xs_iret hX rfl dX4_find_56 (by simp only [mMo_find, c12, c30, ↓reduceIte, Bool.false_eq_true, if_pos c46]) (by simp only [mMo_find, c12, c30, ↓reduceIte, Bool.false_eq_true, if_pos c46])
    · refine xs_aload_n 2 dX4_find_33 rfl ?_
      refine xs_iload_n 1 dX4_find_34 rfl ?_
      refine k_Mo_remove dX4_find_35 kw_Mo_Mo_remove (by decide) (Nat.le_of_ble_eq_true rfl) hz (at1_lt c12) ?_
      refine xs_goto (t := 54) dX4_find_38 (by decide) ?_
      refine xs_iload 0 dX4_find_54 rfl ?_
      exact xs_iret hX rfl dX4_find_56 (by simp only [mMo_find, c12, c30, ↓reduceIte, Bool.false_eq_true]) (by simp only [mMo_find, c12, c30, ↓reduceIte, Bool.false_eq_true])
  · refine xs_aload_n 1 dX4_find_15 rfl ?_
    refine xs_iconst (v := 1) dX4_find_16 (by decide) ?_
    refine k_Mo_fail dX4_find_17 kw_Mo_Mo_fail (by decide) (Nat.le_of_ble_eq_true rfl) ?_
    exact xs_iret hX rfl dX4_find_20 (by simp only [mMo_find, c12]) (by simp only [mMo_find, c12])
theorem k_Mo_find {X : xz_X} {cA : ClassId} {own : String} {am : Nat → Nat} {cc : ByteArray} {nL : Nat} {ret : Option FieldType} {R : Room} {s : zM} {pc ix : Nat} {L : List (Nat × Value)} {st : List Value} {key : Int32} {tk : Bool} (d : decode cc pc = .ok (.invokevirtual ix, 3)) (hw : xwV own ix yX4_find cX4_find 5 (some .int) 2) (hR : xroom R_Mo_find 5 R) (hst : (st.map fun v => v.category).sum ≤ 8) (hz : s.2.2.2 ≤ 2000) (kk : xs X cA own cc nL ret R (wm am cA ((mMo_find s key tk).2)) 0 0 (pc + 3) L (.int ((mMo_find s key tk).1) :: st)) : xs X cA own cc nL ret R (wm am cA s) 0 0 pc L (.int (zb tk) :: .int key :: .ref (am 0) :: st) :=
  xs_call 0 (c_Mo_find am cA s key tk hz) rfl rfl d hw hR rfl rfl rfl hst ⟨Nat.zero_le _, Nat.zero_le _⟩ kk
abbrev R_Mo_has : Room := { frames := 1, cells := 0, slots := 0, locals := 22 }
set_option maxHeartbeats 4000000 in
set_option maxRecDepth 100000 in
theorem c_Mo_has (am : Nat → Nat) (cA : ClassId) (s : zM) (key : Int32) (hz : s.2.2.2 ≤ 2000) : xct cA yX4_has cX4_has 2 (some .boolean) R_Mo_has [.ref (am 0), .int key] (wm am cA s) (some (.int (zb ((mMo_at1 (y1 s 4 0 0) key).isSome)))) (wm am cA (y1 s 4 0 0)) := by
  refine xct_of (own := RX4) (by decide) rfl (Nat.le_of_ble_eq_true rfl) (fun X hX => ?_)
  show xs X cA RX4 cX4_has 2 (some .boolean) R_Mo_has (wm am cA s) 0 0 0 [(0, .ref (am 0)), (1, .int key)] []
  refine xs_aload_n 0 dX4_has_0 rfl ?_
  refine xs_iconst (v := 0) dX4_has_1 (by decide) ?_
  refine p_Mo_failed dX4_has_2 ?_
  refine xs_aload_n 0 dX4_has_5 rfl ?_
  refine xs_iload_n 1 dX4_has_6 rfl ?_
  refine k_Mo_at1 dX4_has_7 kw_Mo_Mo_at1 (by decide) (Nat.le_of_ble_eq_true rfl) hz ?_
  refine xs_oif_lt (t := 17) dX4_has_10 (by decide) (fun _ h => Nat.lt_of_lt_of_le (at1_lt h) (Nat.le_trans hz (by decide))) (fun c10 => ?_) (fun j10 c10 => ?_)
  · refine xs_iconst (v := zb false) dX4_has_17 rfl ?_
    exact xs_zret hX rfl dX4_has_18 (by simp [c10]) rfl
  · refine xs_iconst (v := zb true) dX4_has_13 rfl ?_
    refine xs_goto (t := 18) dX4_has_14 (by decide) ?_
    exact xs_zret hX rfl dX4_has_18 (by simp [c10]) rfl
theorem k_Mo_has {X : xz_X} {cA : ClassId} {own : String} {am : Nat → Nat} {cc : ByteArray} {nL : Nat} {ret : Option FieldType} {R : Room} {s : zM} {pc ix : Nat} {L : List (Nat × Value)} {st : List Value} {key : Int32} (d : decode cc pc = .ok (.invokevirtual ix, 3)) (hw : xwV own ix yX4_has cX4_has 2 (some .boolean) 1) (hR : xroom R_Mo_has 2 R) (hst : (st.map fun v => v.category).sum ≤ 8) (hz : s.2.2.2 ≤ 2000) (kk : xs X cA own cc nL ret R (wm am cA (y1 s 4 0 0)) 0 0 (pc + 3) L (.int (zb ((mMo_at1 (y1 s 4 0 0) key).isSome)) :: st)) : xs X cA own cc nL ret R (wm am cA s) 0 0 pc L (.int key :: .ref (am 0) :: st) :=
  xs_call 0 (c_Mo_has am cA s key hz) rfl rfl d hw hR rfl rfl rfl hst ⟨Nat.zero_le _, Nat.zero_le _⟩ kk
abbrev R_Mo_fill : Room := { frames := 3, cells := 0, slots := 0, locals := 68 }
set_option maxHeartbeats 4000000 in
set_option maxRecDepth 100000 in
theorem t_Mo_fill {X : xz_X} {am : Nat → Nat} {cA : ClassId} {x step nn : Int32} : ∀ (m i : Nat) (s : zM), fillOk x step m i s → i + m = nn.toNatClampNeg → xfin X cA 0 0 (some (.int (nI (mMo_fillL x step m i s).2.2.2))) (wm am cA (mMo_fillL x step m i s)) → xs X cA RX4 cX4_fill 5 (some .int) R_Mo_fill (wm am cA s) 0 0 25 [(4, .int (nI i)), (3, .int nn), (2, .int step), (1, .int x), (0, .ref (am 0))] [] := by
  intro m
  induction m with
  | zero =>
    intro i s hf hi hX
    refine xs_iload 0 dX4_fill_25 rfl ?_
    refine xs_iload_n 1 dX4_fill_27 rfl ?_
    refine xs_icmp_ge (t := 62) dX4_fill_28 (by decide) (fun c28 => ?_) (fun c28 => ?_)
    · refine xs_aload_n 4 dX4_fill_62 rfl ?_
      refine g_Mo_size dX4_fill_63 ?_
      exact xs_iret hX rfl dX4_fill_66 rfl rfl
    · exact absurd (cnt_le (by omega) (by have := cnt_lt31 nn; omega)) c28
  | succ m ih =>
    intro i s hf hi hX
    refine xs_iload 0 dX4_fill_25 rfl ?_
    refine xs_iload_n 1 dX4_fill_27 rfl ?_
    refine xs_icmp_ge (t := 62) dX4_fill_28 (by decide) (fun c28 => ?_) (fun c28 => ?_)
    · exact absurd c28 (cnt_nle (by omega))
    · refine xs_aload_n 4 dX4_fill_31 rfl ?_
      refine xs_iload_n 3 dX4_fill_32 rfl ?_
      refine xs_iload 0 dX4_fill_33 rfl ?_
      refine xs_iload_n 2 dX4_fill_35 rfl ?_
      refine xs_imul dX4_fill_36 ?_
      refine xs_iadd dX4_fill_37 ?_
      refine k_Mo_full dX4_fill_38 kw_Mo_Mo_full (by decide) (Nat.le_of_ble_eq_true rfl) hf.1 ?_
      refine xs_bif_ne (t := 62) dX4_fill_41 (by decide) (fun c41 => ?_) (fun c41 => ?_)
      · refine xs_aload_n 4 dX4_fill_62 rfl ?_
        refine g_Mo_size dX4_fill_63 ?_
        exact xs_iret hX rfl dX4_fill_66 (by simp only [mMo_fillL, if_neg c28, c41, ↓reduceIte, Bool.false_eq_true]) (by simp only [mMo_fillL, if_neg c28, c41, ↓reduceIte, Bool.false_eq_true])
      · refine xs_aload_n 4 dX4_fill_44 rfl ?_
        refine xs_iload_n 3 dX4_fill_45 rfl ?_
        refine xs_iload 0 dX4_fill_46 rfl ?_
        refine xs_iload_n 2 dX4_fill_48 rfl ?_
        refine xs_imul dX4_fill_49 ?_
        refine xs_iadd dX4_fill_50 ?_
        refine xs_iload 0 dX4_fill_51 rfl ?_
        refine k_Mo_enter dX4_fill_53 kw_Mo_Mo_enter (by decide) (Nat.le_of_ble_eq_true rfl) hf.1 (hf.2 c41).1 ?_
        refine xs_iinc_n (L' := [(4, _), (3, _), (2, _), (1, _), (0, _)]) 0 dX4_fill_56 rfl (by decide) rfl ?_
        refine xs_goto (t := 25) dX4_fill_59 (by decide) ?_
        refine xs_sub (L' := [(4, _), (3, _), (2, _), (1, _), (0, _)]) [0, 1, 2, 3, 4] rfl ?_
        exact ih _ _ (hf.2 c41).2 (by omega) (by simp only [mMo_fillL, if_neg c28, c41, ↓reduceIte, Bool.false_eq_true] at hX; exact hX)
set_option maxHeartbeats 4000000 in
set_option maxRecDepth 100000 in
theorem c_Mo_fill (am : Nat → Nat) (cA : ClassId) (s : zM) (x : Int32) (step : Int32) (nn : Int32) (hf : fillOk x step nn.toNatClampNeg 0 (y1 s 4 0 0)) : xct cA yX4_fill cX4_fill 5 (some .int) R_Mo_fill [.ref (am 0), .int x, .int step, .int nn] (wm am cA s) (some (.int ((mMo_fill s x step nn).1))) (wm am cA ((mMo_fill s x step nn).2)) := by
  refine xct_of (own := RX4) (by decide) rfl (Nat.le_of_ble_eq_true rfl) (fun X hX => ?_)
  show xs X cA RX4 cX4_fill 5 (some .int) R_Mo_fill (wm am cA s) 0 0 0 [(0, .ref (am 0)), (1, .int x), (2, .int step), (3, .int nn)] []
  refine xs_aload_n 0 dX4_fill_0 rfl ?_
  refine xs_iconst (v := 0) dX4_fill_1 (by decide) ?_
  refine p_Mo_failed dX4_fill_2 ?_
  refine xs_iload_n 3 dX4_fill_5 rfl ?_
  refine xs_if_lt (t := 16) dX4_fill_6 (by decide) (fun c6 => ?_) (fun c6 => ?_)
  · refine xs_aload_n 0 dX4_fill_16 rfl ?_
    refine xs_iconst (v := 1) dX4_fill_17 (by decide) ?_
    refine k_Mo_fail dX4_fill_18 kw_Mo_Mo_fail (by decide) (Nat.le_of_ble_eq_true rfl) ?_
    exact xs_iret hX rfl dX4_fill_21 (by simp only [mMo_fill, if_pos c6]) (by simp only [mMo_fill, if_pos c6])
  · refine xs_iload_n 3 dX4_fill_9 rfl ?_
    refine xs_sipush (v := 2000) dX4_fill_10 (by decide) ?_
    refine xs_icmp_le (t := 22) dX4_fill_13 (by decide) (fun c13 => ?_) (fun c13 => ?_)
    · refine xs_iconst (v := nI 0) dX4_fill_22 rfl ?_
      refine xs_istore (L' := [(4, _), (0, _), (1, _), (2, _), (3, _)]) dX4_fill_23 (by decide) rfl ?_
      refine xs_sub (L' := [(4, _), (3, _), (2, _), (1, _), (0, _)]) [0, 4, 3, 2, 1] rfl ?_
      exact t_Mo_fill nn.toNatClampNeg 0 _ hf (Nat.zero_add _) (by simp only [mMo_fill, if_neg c6, if_pos c13] at hX; exact hX)
    · refine xs_aload_n 0 dX4_fill_16 rfl ?_
      refine xs_iconst (v := 1) dX4_fill_17 (by decide) ?_
      refine k_Mo_fail dX4_fill_18 kw_Mo_Mo_fail (by decide) (Nat.le_of_ble_eq_true rfl) ?_
      exact xs_iret hX rfl dX4_fill_21 (by simp only [mMo_fill, if_neg c6, if_neg c13]) (by simp only [mMo_fill, if_neg c6, if_neg c13])
theorem k_Mo_fill {X : xz_X} {cA : ClassId} {own : String} {am : Nat → Nat} {cc : ByteArray} {nL : Nat} {ret : Option FieldType} {R : Room} {s : zM} {pc ix : Nat} {L : List (Nat × Value)} {st : List Value} {x : Int32} {step : Int32} {nn : Int32} (d : decode cc pc = .ok (.invokevirtual ix, 3)) (hw : xwV own ix yX4_fill cX4_fill 5 (some .int) 3) (hR : xroom R_Mo_fill 5 R) (hst : (st.map fun v => v.category).sum ≤ 8) (hf : fillOk x step nn.toNatClampNeg 0 (y1 s 4 0 0)) (kk : xs X cA own cc nL ret R (wm am cA ((mMo_fill s x step nn).2)) 0 0 (pc + 3) L (.int ((mMo_fill s x step nn).1) :: st)) : xs X cA own cc nL ret R (wm am cA s) 0 0 pc L (.int nn :: .int step :: .int x :: .ref (am 0) :: st) :=
  xs_call 0 (c_Mo_fill am cA s x step nn hf) rfl rfl d hw hR rfl rfl rfl hst ⟨Nat.zero_le _, Nat.zero_le _⟩ kk
abbrev R_Mo_lay : Room := { frames := 1, cells := 0, slots := 0, locals := 22 }
set_option maxRecDepth 100000 in
theorem kw_Mo_Mo_place : xwV RX4 69 yX4_place cX4_place 3 (some .int) 1 := ⟨⟨xt_of (List.mem_of_getElem? (i := 651) rfl) rfl, xt_of (by decide +kernel) rfl, xt_of (by decide +kernel) rfl, by decide +kernel⟩, xt_of (by decide +kernel) rfl, xt_of (by decide +kernel) rfl⟩
set_option maxHeartbeats 4000000 in
set_option maxRecDepth 100000 in
theorem t_Mo_layI {X : xz_X} {am : Nat → Nat} {cA : ClassId} : ∀ (n i : Nat) (s : zM), i + n = s.2.2.2 → s.2.2.2 ≤ 2000 → xfin X cA 0 0 none (wm am cA (mMo_layI n i s)) → xs X cA RX4 cX4_lay 4 none R_Mo_lay (wm am cA s) 0 0 9 [(1, .int (nI i)), (0, .ref (am 0))] [] := by
  intro n
  induction n with
  | zero =>
    intro i s hi hz hX
    refine xs_iload_n 0 dX4_lay_9 rfl ?_
    refine xs_aload_n 1 dX4_lay_10 rfl ?_
    refine g_Mo_size dX4_lay_11 ?_
    refine xs_icmp_ge (t := 30) dX4_lay_14 (by decide) (fun c14 => ?_) (fun c14 => ?_)
    · exact xs_vret hX rfl dX4_lay_30 rfl
    · exact absurd (kn_le (by omega) (by omega)) c14
  | succ n ih =>
    intro i s hi hz hX
    refine xs_iload_n 0 dX4_lay_9 rfl ?_
    refine xs_aload_n 1 dX4_lay_10 rfl ?_
    refine g_Mo_size dX4_lay_11 ?_
    refine xs_icmp_ge (t := 30) dX4_lay_14 (by decide) (fun c14 => ?_) (fun c14 => ?_)
    · exact absurd c14 (kn_nle (by omega) (by omega))
    · refine xs_aload_n 1 dX4_lay_17 rfl ?_
      refine g_Mo_order dX4_lay_18 ?_
      refine xs_iload_n 0 dX4_lay_21 rfl ?_
      refine xs_iload_n 0 dX4_lay_22 rfl ?_
      refine xs_top (zq_of (by omega)).symm ?_
      refine asn_O dX4_lay_23 (by omega) ?_
      refine xs_iinc_n (L' := [(1, _), (0, _)]) 0 dX4_lay_24 rfl (by decide) rfl ?_
      refine xs_goto (t := 9) dX4_lay_27 (by decide) ?_
      refine xs_sub (L' := [(1, _), (0, _)]) [0, 1] rfl ?_
      exact ih _ _ (by show i + 1 + n = s.2.2.2; omega) hz hX
set_option maxHeartbeats 4000000 in
set_option maxRecDepth 100000 in
theorem t_Mo_lay3 {X : xz_X} {am : Nat → Nat} {cA : ClassId} : ∀ (n i : Nat) (s : zM), i + n = s.2.2.2 → s.2.2.2 ≤ 2000 → mrok s → laySf n i s → xfin X cA 0 0 none (wm am cA (mMo_lay3 n i s)) → xs X cA RX4 cX4_lay 4 none R_Mo_lay (wm am cA s) 0 0 127 [(2, .int (nI i)), (0, .ref (am 0))] [] := by
  intro n
  induction n with
  | zero =>
    intro i s hi hz hr hl hX
    refine xs_iload_n 0 dX4_lay_127 rfl ?_
    refine xs_aload_n 1 dX4_lay_128 rfl ?_
    refine g_Mo_size dX4_lay_129 ?_
    refine xs_icmp_ge (t := 167) dX4_lay_132 (by decide) (fun c132 => ?_) (fun c132 => ?_)
    · exact xs_vret hX rfl dX4_lay_167 rfl
    · exact absurd (kn_le (by omega) (by omega)) c132
  | succ n ih =>
    intro i s hi hz hr hl hX
    refine xs_iload_n 0 dX4_lay_127 rfl ?_
    refine xs_aload_n 1 dX4_lay_128 rfl ?_
    refine g_Mo_size dX4_lay_129 ?_
    refine xs_icmp_ge (t := 167) dX4_lay_132 (by decide) (fun c132 => ?_) (fun c132 => ?_)
    · exact absurd c132 (kn_nle (by omega) (by omega))
    · refine xs_aload_n 1 dX4_lay_135 rfl ?_
      refine g_Mo_order dX4_lay_136 ?_
      refine xs_aload_n 1 dX4_lay_139 rfl ?_
      refine g_Mo_heads dX4_lay_140 ?_
      refine xs_aload_n 1 dX4_lay_143 rfl ?_
      refine xs_aload_n 1 dX4_lay_144 rfl ?_
      refine g_Mo_keys dX4_lay_145 ?_
      refine xs_iload_n 0 dX4_lay_148 rfl ?_
      refine aln_M0 dX4_lay_149 (by omega) ?_
      refine k_Mo_place dX4_lay_150 kw_Mo_Mo_place (by decide) (Nat.le_of_ble_eq_true rfl) hr ?_
      refine xs_dup2 dX4_lay_153 rfl rfl ?_
      refine al_H dX4_lay_154 ?_
      refine xs_dup_x2 dX4_lay_155 rfl rfl rfl ?_
      refine xs_iconst (v := 1) dX4_lay_156 (by decide) ?_
      refine xs_iadd dX4_lay_157 ?_
      refine xs_top (nI_1 _) ?_
      refine as_H dX4_lay_158 ?_
      refine xs_iload_n 0 dX4_lay_159 rfl ?_
      refine xs_top (zq_of (by omega)).symm ?_
      refine asn_O dX4_lay_160 hl.1 ?_
      refine xs_iinc_n (L' := [(2, _), (0, _)]) 0 dX4_lay_161 rfl (by decide) rfl ?_
      refine xs_goto (t := 127) dX4_lay_164 (by decide) ?_
      refine xs_sub (L' := [(2, _), (0, _)]) [0, 1] rfl ?_
      exact ih _ _ (by show i + 1 + n = s.2.2.2; omega) hz hr hl.2 hX
set_option maxHeartbeats 4000000 in
set_option maxRecDepth 100000 in
theorem t_Mo_lay2 {X : xz_X} {am : Nat → Nat} {cA : ClassId} : ∀ (n p sum : Nat) (s : zM), p + n = (s.1 4 4).toNatClampNeg → s.2.2.2 ≤ 2000 → mrok s → laySf (mMo_lay2 n p sum s).2.2.2 0 (mMo_lay2 n p sum s) → xfin X cA 0 0 none (wm am cA (mMo_F3 (mMo_lay2 n p sum s))) → xs X cA RX4 cX4_lay 4 none R_Mo_lay (wm am cA s) 0 0 93 [(2, .int (nI p)), (1, .int (nI sum)), (0, .ref (am 0))] [] := by
  intro n
  induction n with
  | zero =>
    intro p sum s hi hz hr hl hX
    refine xs_iload_n 0 dX4_lay_93 rfl ?_
    refine xs_aload_n 2 dX4_lay_94 rfl ?_
    refine g_Mo_room dX4_lay_95 ?_
    refine xs_icmp_ge (t := 125) dX4_lay_98 (by decide) (fun c98 => ?_) (fun c98 => ?_)
    · refine xs_iconst (v := nI 0) dX4_lay_125 rfl ?_
      refine xs_istore_n (L' := [(2, _), (1, _), (0, _)]) dX4_lay_126 (by decide) rfl ?_
      refine xs_sub (L' := [(2, _), (0, _)]) [0, 2] rfl ?_
      exact t_Mo_lay3 s.2.2.2 0 s (Nat.zero_add _) hz hr hl hX
    · exact absurd (cnt_le (by omega) (by have := mrok_le hr; omega)) c98
  | succ n ih =>
    intro p sum s hi hz hr hl hX
    refine xs_iload_n 0 dX4_lay_93 rfl ?_
    refine xs_aload_n 2 dX4_lay_94 rfl ?_
    refine g_Mo_room dX4_lay_95 ?_
    refine xs_icmp_ge (t := 125) dX4_lay_98 (by decide) (fun c98 => ?_) (fun c98 => ?_)
    · exact absurd c98 (cnt_nle (by omega))
    · refine xs_aload_n 2 dX4_lay_101 rfl ?_
      refine g_Mo_heads dX4_lay_102 ?_
      refine xs_iload_n 0 dX4_lay_105 rfl ?_
      refine aln_H dX4_lay_106 (by have := mrok_le hr; omega) ?_
      refine xs_istore_n (L' := [(3, _), (2, _), (1, _), (0, _)]) dX4_lay_107 (by decide) rfl ?_
      refine xs_aload_n 3 dX4_lay_108 rfl ?_
      refine g_Mo_heads dX4_lay_109 ?_
      refine xs_iload_n 1 dX4_lay_112 rfl ?_
      refine xs_iload_n 2 dX4_lay_113 rfl ?_
      refine asn_H dX4_lay_114 (by have := mrok_le hr; omega) ?_
      refine xs_iload_n 2 dX4_lay_115 rfl ?_
      refine xs_iload_n 0 dX4_lay_116 rfl ?_
      refine xs_iadd dX4_lay_117 ?_
      refine xs_top (nI_add _ _) ?_
      refine xs_istore_n (L' := [(1, _), (3, _), (2, _), (0, _)]) dX4_lay_118 (by decide) rfl ?_
      refine xs_iinc_n (L' := [(2, _), (1, _), (3, _), (0, _)]) 2 dX4_lay_119 rfl (by decide) rfl ?_
      refine xs_goto (t := 93) dX4_lay_122 (by decide) ?_
      refine xs_sub (L' := [(2, _), (1, _), (0, _)]) [0, 1, 3] rfl ?_
      exact ih _ _ _ (by show p + 1 + n = (s.1 4 4).toNatClampNeg; omega) hz hr hl hX
set_option maxHeartbeats 4000000 in
set_option maxRecDepth 100000 in
theorem t_Mo_lay1 {X : xz_X} {am : Nat → Nat} {cA : ClassId} : ∀ (n i : Nat) (s : zM), i + n = s.2.2.2 → s.2.2.2 ≤ 2000 → mrok s → laySf (mMo_F2 (mMo_lay1 n i s)).2.2.2 0 (mMo_F2 (mMo_lay1 n i s)) → xfin X cA 0 0 none (wm am cA (mMo_F3 (mMo_F2 (mMo_lay1 n i s)))) → xs X cA RX4 cX4_lay 4 none R_Mo_lay (wm am cA s) 0 0 56 [(1, .int (nI i)), (0, .ref (am 0))] [] := by
  intro n
  induction n with
  | zero =>
    intro i s hi hz hr hl hX
    refine xs_iload_n 0 dX4_lay_56 rfl ?_
    refine xs_aload_n 1 dX4_lay_57 rfl ?_
    refine g_Mo_size dX4_lay_58 ?_
    refine xs_icmp_ge (t := 89) dX4_lay_61 (by decide) (fun c61 => ?_) (fun c61 => ?_)
    · refine xs_iconst (v := nI 0) dX4_lay_89 rfl ?_
      refine xs_istore_n (L' := [(1, _), (0, _)]) dX4_lay_90 (by decide) rfl ?_
      refine xs_iconst (v := nI 0) dX4_lay_91 rfl ?_
      refine xs_istore_n (L' := [(2, _), (1, _), (0, _)]) dX4_lay_92 (by decide) rfl ?_
      refine xs_sub (L' := [(2, _), (1, _), (0, _)]) [0, 1, 2] rfl ?_
      exact t_Mo_lay2 (s.1 4 4).toNatClampNeg 0 0 s (Nat.zero_add _) hz hr hl hX
    · exact absurd (kn_le (by omega) (by omega)) c61
  | succ n ih =>
    intro i s hi hz hr hl hX
    refine xs_iload_n 0 dX4_lay_56 rfl ?_
    refine xs_aload_n 1 dX4_lay_57 rfl ?_
    refine g_Mo_size dX4_lay_58 ?_
    refine xs_icmp_ge (t := 89) dX4_lay_61 (by decide) (fun c61 => ?_) (fun c61 => ?_)
    · exact absurd c61 (kn_nle (by omega) (by omega))
    · refine xs_aload_n 1 dX4_lay_64 rfl ?_
      refine g_Mo_heads dX4_lay_65 ?_
      refine xs_aload_n 1 dX4_lay_68 rfl ?_
      refine xs_aload_n 1 dX4_lay_69 rfl ?_
      refine g_Mo_keys dX4_lay_70 ?_
      refine xs_iload_n 0 dX4_lay_73 rfl ?_
      refine aln_M0 dX4_lay_74 (by omega) ?_
      refine k_Mo_place dX4_lay_75 kw_Mo_Mo_place (by decide) (Nat.le_of_ble_eq_true rfl) hr ?_
      refine xs_dup2 dX4_lay_78 rfl rfl ?_
      refine al_H dX4_lay_79 ?_
      refine xs_iconst (v := 1) dX4_lay_80 (by decide) ?_
      refine xs_iadd dX4_lay_81 ?_
      refine xs_top (nI_1 _) ?_
      refine as_H dX4_lay_82 ?_
      refine xs_iinc_n (L' := [(1, _), (0, _)]) 0 dX4_lay_83 rfl (by decide) rfl ?_
      refine xs_goto (t := 56) dX4_lay_86 (by decide) ?_
      refine xs_sub (L' := [(1, _), (0, _)]) [0, 1] rfl ?_
      exact ih _ _ (by show i + 1 + n = s.2.2.2; omega) hz hr hl hX
set_option maxHeartbeats 4000000 in
set_option maxRecDepth 100000 in
theorem t_Mo_lay0 {X : xz_X} {am : Nat → Nat} {cA : ClassId} : ∀ (n p : Nat) (s : zM), p + n = (s.1 4 4).toNatClampNeg → s.2.2.2 ≤ 2000 → mrok s → laySf (mMo_F1 (mMo_lay0 n p s)).2.2.2 0 (mMo_F1 (mMo_lay0 n p s)) → xfin X cA 0 0 none (wm am cA (mMo_F3 (mMo_F1 (mMo_lay0 n p s)))) → xs X cA RX4 cX4_lay 4 none R_Mo_lay (wm am cA s) 0 0 33 [(1, .int (nI p)), (0, .ref (am 0))] [] := by
  intro n
  induction n with
  | zero =>
    intro p s hi hz hr hl hX
    refine xs_iload_n 0 dX4_lay_33 rfl ?_
    refine xs_aload_n 1 dX4_lay_34 rfl ?_
    refine g_Mo_room dX4_lay_35 ?_
    refine xs_icmp_ge (t := 54) dX4_lay_38 (by decide) (fun c38 => ?_) (fun c38 => ?_)
    · refine xs_iconst (v := nI 0) dX4_lay_54 rfl ?_
      refine xs_istore_n (L' := [(1, _), (0, _)]) dX4_lay_55 (by decide) rfl ?_
      refine xs_sub (L' := [(1, _), (0, _)]) [0, 1] rfl ?_
      exact t_Mo_lay1 s.2.2.2 0 s (Nat.zero_add _) hz hr hl hX
    · exact absurd (cnt_le (by omega) (by have := mrok_le hr; omega)) c38
  | succ n ih =>
    intro p s hi hz hr hl hX
    refine xs_iload_n 0 dX4_lay_33 rfl ?_
    refine xs_aload_n 1 dX4_lay_34 rfl ?_
    refine g_Mo_room dX4_lay_35 ?_
    refine xs_icmp_ge (t := 54) dX4_lay_38 (by decide) (fun c38 => ?_) (fun c38 => ?_)
    · exact absurd c38 (cnt_nle (by omega))
    · refine xs_aload_n 1 dX4_lay_41 rfl ?_
      refine g_Mo_heads dX4_lay_42 ?_
      refine xs_iload_n 0 dX4_lay_45 rfl ?_
      refine xs_iconst (v := nI 0) dX4_lay_46 rfl ?_
      refine asn_H dX4_lay_47 (by have := mrok_le hr; omega) ?_
      refine xs_iinc_n (L' := [(1, _), (0, _)]) 0 dX4_lay_48 rfl (by decide) rfl ?_
      refine xs_goto (t := 33) dX4_lay_51 (by decide) ?_
      refine xs_sub (L' := [(1, _), (0, _)]) [0, 1] rfl ?_
      exact ih _ _ (by show p + 1 + n = (s.1 4 4).toNatClampNeg; omega) hz hr hl hX
set_option maxHeartbeats 4000000 in
set_option maxRecDepth 100000 in
theorem c_Mo_lay (am : Nat → Nat) (cA : ClassId) (s : zM) (hz : s.2.2.2 ≤ 2000) (hr : mrok s) (hl : layOk s) : xct cA yX4_lay cX4_lay 4 none R_Mo_lay [.ref (am 0)] (wm am cA s) none (wm am cA (mMo_lay s)) := by
  refine xct_of (own := RX4) (by decide) rfl (Nat.le_of_ble_eq_true rfl) (fun X hX => ?_)
  show xs X cA RX4 cX4_lay 4 none R_Mo_lay (wm am cA s) 0 0 0 [(0, .ref (am 0))] []
  refine xs_aload_n 0 dX4_lay_0 rfl ?_
  refine g_Mo_mode dX4_lay_1 ?_
  refine xs_if_le (t := 31) dX4_lay_4 (by decide) (fun c4 => ?_) (fun c4 => ?_)
  · refine xs_iconst (v := nI 0) dX4_lay_31 rfl ?_
    refine xs_istore_n (L' := [(1, _), (0, _)]) dX4_lay_32 (by decide) rfl ?_
    refine xs_sub (L' := [(1, _), (0, _)]) [0, 1] rfl ?_
    exact t_Mo_lay0 (s.1 4 4).toNatClampNeg 0 s (Nat.zero_add _) hz hr (hl c4) (by simp only [mMo_lay, if_pos c4] at hX; exact hX)
  · refine xs_iconst (v := nI 0) dX4_lay_7 rfl ?_
    refine xs_istore_n (L' := [(1, _), (0, _)]) dX4_lay_8 (by decide) rfl ?_
    refine xs_sub (L' := [(1, _), (0, _)]) [0, 1] rfl ?_
    exact t_Mo_layI s.2.2.2 0 _ (Nat.zero_add _) hz (by simp only [mMo_lay, if_neg c4] at hX; exact hX)
theorem k_Mo_lay {X : xz_X} {cA : ClassId} {own : String} {am : Nat → Nat} {cc : ByteArray} {nL : Nat} {ret : Option FieldType} {R : Room} {s : zM} {pc ix : Nat} {L : List (Nat × Value)} {st : List Value} (d : decode cc pc = .ok (.invokevirtual ix, 3)) (hw : xwV own ix yX4_lay cX4_lay 4 none 0) (hR : xroom R_Mo_lay 4 R) (hst : (st.map fun v => v.category).sum ≤ 8) (hz : s.2.2.2 ≤ 2000) (hr : mrok s) (hl : layOk s) (kk : xs X cA own cc nL ret R (wm am cA (mMo_lay s)) 0 0 (pc + 3) L (st)) : xs X cA own cc nL ret R (wm am cA s) 0 0 pc L (.ref (am 0) :: st) :=
  xs_call 0 (c_Mo_lay am cA s hz hr hl) rfl rfl d hw hR rfl rfl rfl hst ⟨Nat.zero_le _, Nat.zero_le _⟩ kk
abbrev R_Mo_at : Room := { frames := 2, cells := 0, slots := 0, locals := 45 }
set_option maxRecDepth 100000 in
theorem kw_Mo_Mo_lay : xwV RX4 72 yX4_lay cX4_lay 4 none 0 := ⟨⟨xt_of (List.mem_of_getElem? (i := 647) rfl) rfl, xt_of (by decide +kernel) rfl, xt_of (by decide +kernel) rfl, by decide +kernel⟩, xt_of (by decide +kernel) rfl, xt_of (by decide +kernel) rfl⟩
set_option maxHeartbeats 4000000 in
set_option maxRecDepth 100000 in
theorem c_Mo_at (am : Nat → Nat) (cA : ClassId) (s : zM) (i : Int32) (hz : s.2.2.2 ≤ 2000) (hr : mrok s) (hl : layOk (y1 s 4 0 0)) : xct cA yX4_at cX4_at 2 (some .int) R_Mo_at [.ref (am 0), .int i] (wm am cA s) (some (.int ((mMo_at s i).1))) (wm am cA ((mMo_at s i).2)) := by
  refine xct_of (own := RX4) (by decide) rfl (Nat.le_of_ble_eq_true rfl) (fun X hX => ?_)
  show xs X cA RX4 cX4_at 2 (some .int) R_Mo_at (wm am cA s) 0 0 0 [(0, .ref (am 0)), (1, .int i)] []
  refine xs_aload_n 0 dX4_at_0 rfl ?_
  refine xs_iconst (v := 0) dX4_at_1 (by decide) ?_
  refine p_Mo_failed dX4_at_2 ?_
  refine xs_iload_n 1 dX4_at_5 rfl ?_
  refine xs_if_lt (t := 17) dX4_at_6 (by decide) (fun c6 => ?_) (fun c6 => ?_)
  · refine xs_aload_n 0 dX4_at_17 rfl ?_
    refine xs_iconst (v := 1) dX4_at_18 (by decide) ?_
    refine k_Mo_fail dX4_at_19 kw_Mo_Mo_fail (by decide) (Nat.le_of_ble_eq_true rfl) ?_
    exact xs_iret hX rfl dX4_at_22 (by simp only [mMo_at, if_pos c6]) (by simp only [mMo_at, if_pos c6])
  · refine xs_iload_n 1 dX4_at_9 rfl ?_
    refine xs_aload_n 0 dX4_at_10 rfl ?_
    refine g_Mo_size dX4_at_11 ?_
    refine xs_icmp_lt (t := 23) dX4_at_14 (by decide) (fun c14 => ?_) (fun c14 => ?_)
    · refine xs_aload_n 0 dX4_at_23 rfl ?_
      refine k_Mo_lay dX4_at_24 kw_Mo_Mo_lay (by decide) (Nat.le_of_ble_eq_true rfl) hz hr hl ?_
      refine xs_aload_n 0 dX4_at_27 rfl ?_
      refine g_Mo_keys dX4_at_28 ?_
      refine xs_aload_n 0 dX4_at_31 rfl ?_
      refine g_Mo_order dX4_at_32 ?_
      refine xs_iload_n 1 dX4_at_35 rfl ?_
      refine xs_top (i32_nn c6) ?_
      refine aln_O dX4_at_36 (Nat.lt_of_lt_of_le (i32_lt_nn c6 (Nat.lt_of_le_of_lt hz (by decide)) c14) hz) ?_
      refine alq_M0 dX4_at_37 ?_
      exact xs_iret hX rfl dX4_at_38 (by simp only [mMo_at, if_neg c6, if_pos c14]) (by simp only [mMo_at, if_neg c6, if_pos c14])
    · refine xs_aload_n 0 dX4_at_17 rfl ?_
      refine xs_iconst (v := 1) dX4_at_18 (by decide) ?_
      refine k_Mo_fail dX4_at_19 kw_Mo_Mo_fail (by decide) (Nat.le_of_ble_eq_true rfl) ?_
      exact xs_iret hX rfl dX4_at_22 (by simp only [mMo_at, if_neg c6, if_neg c14]) (by simp only [mMo_at, if_neg c6, if_neg c14])
theorem k_Mo_at {X : xz_X} {cA : ClassId} {own : String} {am : Nat → Nat} {cc : ByteArray} {nL : Nat} {ret : Option FieldType} {R : Room} {s : zM} {pc ix : Nat} {L : List (Nat × Value)} {st : List Value} {i : Int32} (d : decode cc pc = .ok (.invokevirtual ix, 3)) (hw : xwV own ix yX4_at cX4_at 2 (some .int) 1) (hR : xroom R_Mo_at 2 R) (hst : (st.map fun v => v.category).sum ≤ 8) (hz : s.2.2.2 ≤ 2000) (hr : mrok s) (hl : layOk (y1 s 4 0 0)) (kk : xs X cA own cc nL ret R (wm am cA ((mMo_at s i).2)) 0 0 (pc + 3) L (.int ((mMo_at s i).1) :: st)) : xs X cA own cc nL ret R (wm am cA s) 0 0 pc L (.int i :: .ref (am 0) :: st) :=
  xs_call 0 (c_Mo_at am cA s i hz hr hl) rfl rfl d hw hR rfl rfl rfl hst ⟨Nat.zero_le _, Nat.zero_le _⟩ kk
abbrev R_Mo_after : Room := { frames := 2, cells := 0, slots := 0, locals := 45 }
set_option maxHeartbeats 4000000 in
set_option maxRecDepth 100000 in
theorem t_Mo_af {X : xz_X} {am : Nat → Nat} {cA : ClassId} {s : zM} {key : Int32} (hz : s.2.2.2 ≤ 2000) : ∀ (n i : Nat), n = s.2.2.2 - 1 - i → i ≤ 2000 → xfin X cA 0 0 (some (.int ((mMo_afR s (mMo_afL s key n i)).1))) (wm am cA ((mMo_afR s (mMo_afL s key n i)).2)) → xs X cA RX4 cX4_after 3 (some .int) R_Mo_after (wm am cA s) 0 0 11 [(2, .int (nI i)), (1, .int key), (0, .ref (am 0))] [] := by
  intro n
  induction n with
  | zero =>
    intro i hi hj hX
    refine xs_iload_n 0 dX4_after_11 rfl ?_
    refine xs_iconst (v := 1) dX4_after_12 (by decide) ?_
    refine xs_iadd dX4_after_13 ?_
    refine xs_top (nI_1 _) ?_
    refine xs_aload_n 2 dX4_after_14 rfl ?_
    refine g_Mo_size dX4_after_15 ?_
    refine xs_icmp_ge (t := 56) dX4_after_18 (by decide) (fun c18 => ?_) (fun c18 => ?_)
    · refine xs_aload_n 2 dX4_after_56 rfl ?_
      refine xs_iconst (v := 1) dX4_after_57 (by decide) ?_
      refine k_Mo_fail dX4_after_58 kw_Mo_Mo_fail (by decide) (Nat.le_of_ble_eq_true rfl) ?_
      exact xs_iret hX rfl dX4_after_61 rfl rfl
    · exact absurd (kn_le (by omega) (by omega)) c18
  | succ n ih =>
    intro i hi hj hX
    refine xs_iload_n 0 dX4_after_11 rfl ?_
    refine xs_iconst (v := 1) dX4_after_12 (by decide) ?_
    refine xs_iadd dX4_after_13 ?_
    refine xs_top (nI_1 _) ?_
    refine xs_aload_n 2 dX4_after_14 rfl ?_
    refine g_Mo_size dX4_after_15 ?_
    refine xs_icmp_ge (t := 56) dX4_after_18 (by decide) (fun c18 => ?_) (fun c18 => ?_)
    · exact absurd c18 (kn_nle (by omega) (by omega))
    · refine xs_aload_n 2 dX4_after_21 rfl ?_
      refine g_Mo_keys dX4_after_22 ?_
      refine xs_aload_n 2 dX4_after_25 rfl ?_
      refine g_Mo_order dX4_after_26 ?_
      refine xs_iload_n 0 dX4_after_29 rfl ?_
      refine aln_O dX4_after_30 (by omega) ?_
      refine alq_M0 dX4_after_31 ?_
      refine xs_iload_n 1 dX4_after_32 rfl ?_
      refine xs_icmp_ne (t := 50) dX4_after_33 (by decide) (fun c33 => ?_) (fun c33 => ?_)
      · refine xs_iinc_n (L' := [(2, _), (1, _), (0, _)]) 0 dX4_after_50 rfl (by decide) rfl ?_
        refine xs_goto (t := 11) dX4_after_53 (by decide) ?_
        refine xs_sub (L' := [(2, _), (1, _), (0, _)]) [0, 1, 2] rfl ?_
        exact ih _ (by omega) (by omega) (by simp only [mMo_afL, if_neg c18, if_neg c33] at hX; exact hX)
      · refine xs_aload_n 2 dX4_after_36 rfl ?_
        refine g_Mo_keys dX4_after_37 ?_
        refine xs_aload_n 2 dX4_after_40 rfl ?_
        refine g_Mo_order dX4_after_41 ?_
        refine xs_iload_n 0 dX4_after_44 rfl ?_
        refine xs_iconst (v := 1) dX4_after_45 (by decide) ?_
        refine xs_iadd dX4_after_46 ?_
        refine xs_top (nI_1 _) ?_
        refine aln_O dX4_after_47 (by omega) ?_
        refine alq_M0 dX4_after_48 ?_
        exact xs_iret hX rfl dX4_after_49 (by simp only [mMo_afR, mMo_afL, if_neg c18, if_pos c33]) (by simp only [mMo_afR, mMo_afL, if_neg c18, if_pos c33])
set_option maxHeartbeats 4000000 in
set_option maxRecDepth 100000 in
theorem c_Mo_after (am : Nat → Nat) (cA : ClassId) (s : zM) (key : Int32) (hz : s.2.2.2 ≤ 2000) (hr : mrok s) (hl : layOk (y1 s 4 0 0)) : xct cA yX4_after cX4_after 3 (some .int) R_Mo_after [.ref (am 0), .int key] (wm am cA s) (some (.int ((mMo_after s key).1))) (wm am cA ((mMo_after s key).2)) := by
  refine xct_of (own := RX4) (by decide) rfl (Nat.le_of_ble_eq_true rfl) (fun X hX => ?_)
  show xs X cA RX4 cX4_after 3 (some .int) R_Mo_after (wm am cA s) 0 0 0 [(0, .ref (am 0)), (1, .int key)] []
  refine xs_aload_n 0 dX4_after_0 rfl ?_
  refine xs_iconst (v := 0) dX4_after_1 (by decide) ?_
  refine p_Mo_failed dX4_after_2 ?_
  refine xs_aload_n 0 dX4_after_5 rfl ?_
  refine k_Mo_lay dX4_after_6 kw_Mo_Mo_lay (by decide) (Nat.le_of_ble_eq_true rfl) hz hr hl ?_
  refine xs_iconst (v := nI 0) dX4_after_9 rfl ?_
  refine xs_istore_n (L' := [(2, _), (0, _), (1, _)]) dX4_after_10 (by decide) rfl ?_
  refine xs_sub (L' := [(2, _), (1, _), (0, _)]) [0, 2, 1] rfl ?_
  exact t_Mo_af (s := mMo_lay (y1 s 4 0 0)) (by rw [(lay_z _).2]; exact hz) _ 0 rfl (by decide) hX
theorem k_Mo_after {X : xz_X} {cA : ClassId} {own : String} {am : Nat → Nat} {cc : ByteArray} {nL : Nat} {ret : Option FieldType} {R : Room} {s : zM} {pc ix : Nat} {L : List (Nat × Value)} {st : List Value} {key : Int32} (d : decode cc pc = .ok (.invokevirtual ix, 3)) (hw : xwV own ix yX4_after cX4_after 3 (some .int) 1) (hR : xroom R_Mo_after 3 R) (hst : (st.map fun v => v.category).sum ≤ 8) (hz : s.2.2.2 ≤ 2000) (hr : mrok s) (hl : layOk (y1 s 4 0 0)) (kk : xs X cA own cc nL ret R (wm am cA ((mMo_after s key).2)) 0 0 (pc + 3) L (.int ((mMo_after s key).1) :: st)) : xs X cA own cc nL ret R (wm am cA s) 0 0 pc L (.int key :: .ref (am 0) :: st) :=
  xs_call 0 (c_Mo_after am cA s key hz hr hl) rfl rfl d hw hR rfl rfl rfl hst ⟨Nat.zero_le _, Nat.zero_le _⟩ kk
abbrev R_Mo_size : Room := { frames := 0, cells := 0, slots := 0, locals := 0 }
set_option maxHeartbeats 4000000 in
set_option maxRecDepth 100000 in
theorem c_Mo_size (am : Nat → Nat) (cA : ClassId) (s : zM) : xct cA yX4_size cX4_size 1 (some .int) R_Mo_size [.ref (am 0)] (wm am cA s) (some (.int (nI (s.2.2.2)))) (wm am cA (y1 s 4 0 0)) := by
  refine xct_of (own := RX4) (by decide) rfl (Nat.le_of_ble_eq_true rfl) (fun X hX => ?_)
  show xs X cA RX4 cX4_size 1 (some .int) R_Mo_size (wm am cA s) 0 0 0 [(0, .ref (am 0))] []
  refine xs_aload_n 0 dX4_size_0 rfl ?_
  refine xs_iconst (v := 0) dX4_size_1 (by decide) ?_
  refine p_Mo_failed dX4_size_2 ?_
  refine xs_aload_n 0 dX4_size_5 rfl ?_
  refine g_Mo_size dX4_size_6 ?_
  exact xs_iret hX rfl dX4_size_9 rfl rfl
theorem k_Mo_size {X : xz_X} {cA : ClassId} {own : String} {am : Nat → Nat} {cc : ByteArray} {nL : Nat} {ret : Option FieldType} {R : Room} {s : zM} {pc ix : Nat} {L : List (Nat × Value)} {st : List Value} (d : decode cc pc = .ok (.invokevirtual ix, 3)) (hw : xwV own ix yX4_size cX4_size 1 (some .int) 0) (hR : xroom R_Mo_size 1 R) (hst : (st.map fun v => v.category).sum ≤ 8) (kk : xs X cA own cc nL ret R (wm am cA (y1 s 4 0 0)) 0 0 (pc + 3) L (.int (nI (s.2.2.2)) :: st)) : xs X cA own cc nL ret R (wm am cA s) 0 0 pc L (.ref (am 0) :: st) :=
  xs_call 0 (c_Mo_size am cA s) rfl rfl d hw hR rfl rfl rfl hst ⟨Nat.zero_le _, Nat.zero_le _⟩ kk
abbrev R_Mo_clear : Room := { frames := 0, cells := 0, slots := 0, locals := 0 }
set_option maxHeartbeats 4000000 in
set_option maxRecDepth 100000 in
theorem c_Mo_clear (am : Nat → Nat) (cA : ClassId) (s : zM) : xct cA yX4_clear cX4_clear 2 (some .int) R_Mo_clear [.ref (am 0)] (wm am cA s) (some (.int (nI (s.2.2.2)))) (wm am cA (yz (y1 s 4 0 0) 0)) := by
  refine xct_of (own := RX4) (by decide) rfl (Nat.le_of_ble_eq_true rfl) (fun X hX => ?_)
  show xs X cA RX4 cX4_clear 2 (some .int) R_Mo_clear (wm am cA s) 0 0 0 [(0, .ref (am 0))] []
  refine xs_aload_n 0 dX4_clear_0 rfl ?_
  refine xs_iconst (v := 0) dX4_clear_1 (by decide) ?_
  refine p_Mo_failed dX4_clear_2 ?_
  refine xs_aload_n 0 dX4_clear_5 rfl ?_
  refine g_Mo_size dX4_clear_6 ?_
  refine xs_istore_n (L' := [(1, _), (0, _)]) dX4_clear_9 (by decide) rfl ?_
  refine xs_aload_n 1 dX4_clear_10 rfl ?_
  refine xs_iconst (v := nI 0) dX4_clear_11 rfl ?_
  refine p_Mo_size dX4_clear_12 ?_
  refine xs_iload_n 0 dX4_clear_15 rfl ?_
  exact xs_iret hX rfl dX4_clear_16 rfl rfl
theorem k_Mo_clear {X : xz_X} {cA : ClassId} {own : String} {am : Nat → Nat} {cc : ByteArray} {nL : Nat} {ret : Option FieldType} {R : Room} {s : zM} {pc ix : Nat} {L : List (Nat × Value)} {st : List Value} (d : decode cc pc = .ok (.invokevirtual ix, 3)) (hw : xwV own ix yX4_clear cX4_clear 2 (some .int) 0) (hR : xroom R_Mo_clear 2 R) (hst : (st.map fun v => v.category).sum ≤ 8) (kk : xs X cA own cc nL ret R (wm am cA (yz (y1 s 4 0 0) 0)) 0 0 (pc + 3) L (.int (nI (s.2.2.2)) :: st)) : xs X cA own cc nL ret R (wm am cA s) 0 0 pc L (.ref (am 0) :: st) :=
  xs_call 0 (c_Mo_clear am cA s) rfl rfl d hw hR rfl rfl rfl hst ⟨Nat.zero_le _, Nat.zero_le _⟩ kk
abbrev R_Mo_hash : Room := { frames := 2, cells := 0, slots := 0, locals := 45 }
set_option maxHeartbeats 4000000 in
set_option maxRecDepth 100000 in
theorem t_Mo_hash {X : xz_X} {am : Nat → Nat} {cA : ClassId} {s : zM} (hz : s.2.2.2 ≤ 2000) : ∀ (n i : Nat) (h : Int32), i + n = s.2.2.2 → xfin X cA 0 0 (some (.int (mMo_hashL s n i h))) (wm am cA (s)) → xs X cA RX4 cX4_hash 3 (some .int) R_Mo_hash (wm am cA s) 0 0 13 [(2, .int (nI i)), (1, .int h), (0, .ref (am 0))] [] := by
  intro n
  induction n with
  | zero =>
    intro i h hi hX
    refine xs_iload_n 0 dX4_hash_13 rfl ?_
    refine xs_aload_n 2 dX4_hash_14 rfl ?_
    refine g_Mo_size dX4_hash_15 ?_
    refine xs_icmp_ge (t := 59) dX4_hash_18 (by decide) (fun c18 => ?_) (fun c18 => ?_)
    · refine xs_iload_n 1 dX4_hash_59 rfl ?_
      exact xs_iret hX rfl dX4_hash_60 rfl rfl
    · exact absurd (kn_le (by omega) (by omega)) c18
  | succ n ih =>
    intro i h hi hX
    refine xs_iload_n 0 dX4_hash_13 rfl ?_
    refine xs_aload_n 2 dX4_hash_14 rfl ?_
    refine g_Mo_size dX4_hash_15 ?_
    refine xs_icmp_ge (t := 59) dX4_hash_18 (by decide) (fun c18 => ?_) (fun c18 => ?_)
    · exact absurd c18 (kn_nle (by omega) (by omega))
    · refine xs_bipush (v := 31) dX4_hash_21 (by decide) ?_
      refine xs_bipush (v := 31) dX4_hash_23 (by decide) ?_
      refine xs_iload_n 1 dX4_hash_25 rfl ?_
      refine xs_imul dX4_hash_26 ?_
      refine xs_aload_n 2 dX4_hash_27 rfl ?_
      refine g_Mo_keys dX4_hash_28 ?_
      refine xs_aload_n 2 dX4_hash_31 rfl ?_
      refine g_Mo_order dX4_hash_32 ?_
      refine xs_iload_n 0 dX4_hash_35 rfl ?_
      refine aln_O dX4_hash_36 (by omega) ?_
      refine alq_M0 dX4_hash_37 ?_
      refine xs_iadd dX4_hash_38 ?_
      refine xs_imul dX4_hash_39 ?_
      refine xs_aload_n 2 dX4_hash_40 rfl ?_
      refine g_Mo_numbers dX4_hash_41 ?_
      refine xs_aload_n 2 dX4_hash_44 rfl ?_
      refine g_Mo_order dX4_hash_45 ?_
      refine xs_iload_n 0 dX4_hash_48 rfl ?_
      refine aln_O dX4_hash_49 (by omega) ?_
      refine alq_M1 dX4_hash_50 ?_
      refine xs_iadd dX4_hash_51 ?_
      refine xs_istore_n (L' := [(1, _), (2, _), (0, _)]) dX4_hash_52 (by decide) rfl ?_
      refine xs_iinc_n (L' := [(2, _), (1, _), (0, _)]) 1 dX4_hash_53 rfl (by decide) rfl ?_
      refine xs_goto (t := 13) dX4_hash_56 (by decide) ?_
      refine xs_sub (L' := [(2, _), (1, _), (0, _)]) [0, 1, 2] rfl ?_
      exact ih _ _ (by omega) hX
set_option maxHeartbeats 4000000 in
set_option maxRecDepth 100000 in
theorem c_Mo_hash (am : Nat → Nat) (cA : ClassId) (s : zM) (hz : s.2.2.2 ≤ 2000) (hr : mrok s) (hl : layOk (y1 s 4 0 0)) : xct cA yX4_hash cX4_hash 3 (some .int) R_Mo_hash [.ref (am 0)] (wm am cA s) (some (.int (mMo_hash s))) (wm am cA (mMo_lay (y1 s 4 0 0))) := by
  refine xct_of (own := RX4) (by decide) rfl (Nat.le_of_ble_eq_true rfl) (fun X hX => ?_)
  show xs X cA RX4 cX4_hash 3 (some .int) R_Mo_hash (wm am cA s) 0 0 0 [(0, .ref (am 0))] []
  refine xs_aload_n 0 dX4_hash_0 rfl ?_
  refine xs_iconst (v := 0) dX4_hash_1 (by decide) ?_
  refine p_Mo_failed dX4_hash_2 ?_
  refine xs_aload_n 0 dX4_hash_5 rfl ?_
  refine k_Mo_lay dX4_hash_6 kw_Mo_Mo_lay (by decide) (Nat.le_of_ble_eq_true rfl) hz hr hl ?_
  refine xs_iconst (v := 1) dX4_hash_9 (by decide) ?_
  refine xs_istore_n (L' := [(1, _), (0, _)]) dX4_hash_10 (by decide) rfl ?_
  refine xs_iconst (v := nI 0) dX4_hash_11 rfl ?_
  refine xs_istore_n (L' := [(2, _), (1, _), (0, _)]) dX4_hash_12 (by decide) rfl ?_
  refine xs_sub (L' := [(2, _), (1, _), (0, _)]) [0, 1, 2] rfl ?_
  exact t_Mo_hash (s := mMo_lay (y1 s 4 0 0)) (by rw [(lay_z _).2]; exact hz) _ 0 _ (Nat.zero_add _) hX
theorem k_Mo_hash {X : xz_X} {cA : ClassId} {own : String} {am : Nat → Nat} {cc : ByteArray} {nL : Nat} {ret : Option FieldType} {R : Room} {s : zM} {pc ix : Nat} {L : List (Nat × Value)} {st : List Value} (d : decode cc pc = .ok (.invokevirtual ix, 3)) (hw : xwV own ix yX4_hash cX4_hash 3 (some .int) 0) (hR : xroom R_Mo_hash 3 R) (hst : (st.map fun v => v.category).sum ≤ 8) (hz : s.2.2.2 ≤ 2000) (hr : mrok s) (hl : layOk (y1 s 4 0 0)) (kk : xs X cA own cc nL ret R (wm am cA (mMo_lay (y1 s 4 0 0))) 0 0 (pc + 3) L (.int (mMo_hash s) :: st)) : xs X cA own cc nL ret R (wm am cA s) 0 0 pc L (.ref (am 0) :: st) :=
  xs_call 0 (c_Mo_hash am cA s hz hr hl) rfl rfl d hw hR rfl rfl rfl hst ⟨Nat.zero_le _, Nat.zero_le _⟩ kk
abbrev R_Mo_wrong : Room := { frames := 0, cells := 0, slots := 0, locals := 0 }
set_option maxHeartbeats 4000000 in
set_option maxRecDepth 100000 in
theorem c_Mo_wrong (am : Nat → Nat) (cA : ClassId) (s : zM) : xct cA yX4_wrong cX4_wrong 1 (some .int) R_Mo_wrong [.ref (am 0)] (wm am cA s) (some (.int (0))) (wm am cA (y1 s 4 0 0)) := by
  refine xct_of (own := RX4) (by decide) rfl (Nat.le_of_ble_eq_true rfl) (fun X hX => ?_)
  show xs X cA RX4 cX4_wrong 1 (some .int) R_Mo_wrong (wm am cA s) 0 0 0 [(0, .ref (am 0))] []
  refine xs_aload_n 0 dX4_wrong_0 rfl ?_
  refine xs_iconst (v := 0) dX4_wrong_1 (by decide) ?_
  refine p_Mo_failed dX4_wrong_2 ?_
  refine xs_iconst (v := 0) dX4_wrong_5 (by decide) ?_
  exact xs_iret hX rfl dX4_wrong_6 rfl rfl
theorem k_Mo_wrong {X : xz_X} {cA : ClassId} {own : String} {am : Nat → Nat} {cc : ByteArray} {nL : Nat} {ret : Option FieldType} {R : Room} {s : zM} {pc ix : Nat} {L : List (Nat × Value)} {st : List Value} (d : decode cc pc = .ok (.invokevirtual ix, 3)) (hw : xwV own ix yX4_wrong cX4_wrong 1 (some .int) 0) (hR : xroom R_Mo_wrong 1 R) (hst : (st.map fun v => v.category).sum ≤ 8) (kk : xs X cA own cc nL ret R (wm am cA (y1 s 4 0 0)) 0 0 (pc + 3) L (.int (0) :: st)) : xs X cA own cc nL ret R (wm am cA s) 0 0 pc L (.ref (am 0) :: st) :=
  xs_call 0 (c_Mo_wrong am cA s) rfl rfl d hw hR rfl rfl rfl hst ⟨Nat.zero_le _, Nat.zero_le _⟩ kk
abbrev R_Mo_make : Room := { frames := 1, cells := 0, slots := 0, locals := 21 }
set_option maxHeartbeats 4000000 in
set_option maxRecDepth 100000 in
theorem c_Mo_make (am : Nat → Nat) (cA : ClassId) (s : zM) (mode : Int32) (f : Int32) (most : Int32) : xct cA yX4_make cX4_make 5 (some .int) R_Mo_make [.ref (am 0), .int mode, .int f, .int most] (wm am cA s) (some (.int ((mMo_make s mode f most).1))) (wm am cA ((mMo_make s mode f most).2)) := by
  refine xct_of (own := RX4) (by decide) rfl (Nat.le_of_ble_eq_true rfl) (fun X hX => ?_)
  show xs X cA RX4 cX4_make 5 (some .int) R_Mo_make (wm am cA s) 0 0 0 [(0, .ref (am 0)), (1, .int mode), (2, .int f), (3, .int most)] []
  refine xs_aload_n 0 dX4_make_0 rfl ?_
  refine xs_iconst (v := 0) dX4_make_1 (by decide) ?_
  refine p_Mo_failed dX4_make_2 ?_
  refine xs_iload_n 1 dX4_make_5 rfl ?_
  refine xs_if_lt (t := 47) dX4_make_6 (by decide) (fun c6 => ?_) (fun c6 => ?_)
  · refine xs_aload_n 0 dX4_make_47 rfl ?_
    refine xs_iconst (v := 1) dX4_make_48 (by decide) ?_
    refine k_Mo_fail dX4_make_49 kw_Mo_Mo_fail (by decide) (Nat.le_of_ble_eq_true rfl) ?_
    exact xs_iret hX rfl dX4_make_52 (by simp [mMo_make, mMo_okMode, c6]) (by simp [mMo_make, mMo_okMode, c6, mMo_fail])
  · refine xs_iload_n 1 dX4_make_9 rfl ?_
    refine xs_iconst (v := 2) dX4_make_10 (by decide) ?_
    refine xs_icmp_gt (t := 47) dX4_make_11 (by decide) (fun c11 => ?_) (fun c11 => ?_)
    · refine xs_aload_n 0 dX4_make_47 rfl ?_
      refine xs_iconst (v := 1) dX4_make_48 (by decide) ?_
      refine k_Mo_fail dX4_make_49 kw_Mo_Mo_fail (by decide) (Nat.le_of_ble_eq_true rfl) ?_
      exact xs_iret hX rfl dX4_make_52 (by simp [mMo_make, mMo_okMode, c6, c11]) (by simp [mMo_make, mMo_okMode, c6, c11, mMo_fail])
    · refine xs_iload_n 2 dX4_make_14 rfl ?_
      refine xs_if_lt (t := 47) dX4_make_15 (by decide) (fun c15 => ?_) (fun c15 => ?_)
      · refine xs_aload_n 0 dX4_make_47 rfl ?_
        refine xs_iconst (v := 1) dX4_make_48 (by decide) ?_
        refine k_Mo_fail dX4_make_49 kw_Mo_Mo_fail (by decide) (Nat.le_of_ble_eq_true rfl) ?_
        exact xs_iret hX rfl dX4_make_52 (by simp [mMo_make, mMo_okMode, c6, c11, c15]) (by simp [mMo_make, mMo_okMode, c6, c11, c15, mMo_fail])
      · refine xs_iload_n 2 dX4_make_18 rfl ?_
        refine xs_iconst (v := 2) dX4_make_19 (by decide) ?_
        refine xs_icmp_gt (t := 47) dX4_make_20 (by decide) (fun c20 => ?_) (fun c20 => ?_)
        · refine xs_aload_n 0 dX4_make_47 rfl ?_
          refine xs_iconst (v := 1) dX4_make_48 (by decide) ?_
          refine k_Mo_fail dX4_make_49 kw_Mo_Mo_fail (by decide) (Nat.le_of_ble_eq_true rfl) ?_
          exact xs_iret hX rfl dX4_make_52 (by simp [mMo_make, mMo_okMode, c6, c11, c15, c20]) (by simp [mMo_make, mMo_okMode, c6, c11, c15, c20, mMo_fail])
        · refine xs_iload_n 1 dX4_make_23 rfl ?_
          refine xs_iconst (v := 2) dX4_make_24 (by decide) ?_
          refine xs_icmp_ne (t := 43) dX4_make_25 (by decide) (fun c25 => ?_) (fun c25 => ?_)
          · refine xs_iload_n 3 dX4_make_43 rfl ?_
            refine xs_if_eq (t := 53) dX4_make_44 (by decide) (fun c44 => ?_) (fun c44 => ?_)
            · refine xs_aload_n 0 dX4_make_53 rfl ?_
              refine g_Mo_size dX4_make_54 ?_
              refine xs_istore (L' := [(4, _), (0, _), (1, _), (2, _), (3, _)]) dX4_make_57 (by decide) rfl ?_
              refine xs_aload_n 1 dX4_make_59 rfl ?_
              refine xs_iload_n 2 dX4_make_60 rfl ?_
              refine p_Mo_mode dX4_make_61 ?_
              refine xs_aload_n 1 dX4_make_64 rfl ?_
              refine xs_iload_n 3 dX4_make_65 rfl ?_
              refine p_Mo_function dX4_make_66 ?_
              refine xs_aload_n 1 dX4_make_69 rfl ?_
              refine xs_iload_n 4 dX4_make_70 rfl ?_
              refine p_Mo_most dX4_make_71 ?_
              refine xs_aload_n 1 dX4_make_74 rfl ?_
              refine xs_bipush (v := 16) dX4_make_75 (by decide) ?_
              refine p_Mo_room dX4_make_77 ?_
              refine xs_aload_n 1 dX4_make_80 rfl ?_
              refine xs_iconst (v := nI 0) dX4_make_81 rfl ?_
              refine p_Mo_size dX4_make_82 ?_
              refine xs_iload 0 dX4_make_85 rfl ?_
              exact xs_iret hX rfl dX4_make_87 (by simp [mMo_make, mMo_okMode, c6, c11, c15, c20, c25, c44]) (by simp [mMo_make, mMo_okMode, c6, c11, c15, c20, c25, c44, mMo_fail])
            · refine xs_aload_n 0 dX4_make_47 rfl ?_
              refine xs_iconst (v := 1) dX4_make_48 (by decide) ?_
              refine k_Mo_fail dX4_make_49 kw_Mo_Mo_fail (by decide) (Nat.le_of_ble_eq_true rfl) ?_
              exact xs_iret hX rfl dX4_make_52 (by simp [mMo_make, mMo_okMode, c6, c11, c15, c20, c25, c44]) (by simp [mMo_make, mMo_okMode, c6, c11, c15, c20, c25, c44, mMo_fail])
          · refine xs_iload_n 3 dX4_make_28 rfl ?_
            refine xs_iconst (v := 1) dX4_make_29 (by decide) ?_
            refine xs_icmp_lt (t := 47) dX4_make_30 (by decide) (fun c30 => ?_) (fun c30 => ?_)
            · refine xs_aload_n 0 dX4_make_47 rfl ?_
              refine xs_iconst (v := 1) dX4_make_48 (by decide) ?_
              refine k_Mo_fail dX4_make_49 kw_Mo_Mo_fail (by decide) (Nat.le_of_ble_eq_true rfl) ?_
              exact xs_iret hX rfl dX4_make_52 (by simp [mMo_make, mMo_okMode, c6, c11, c15, c20, c25, c30]) (by simp [mMo_make, mMo_okMode, c6, c11, c15, c20, c25, c30, mMo_fail])
            · refine xs_iload_n 3 dX4_make_33 rfl ?_
              refine xs_sipush (v := 2000) dX4_make_34 (by decide) ?_
              refine xs_icmp_le (t := 53) dX4_make_37 (by decide) (fun c37 => ?_) (fun c37 => ?_)
              · refine xs_aload_n 0 dX4_make_53 rfl ?_
                refine g_Mo_size dX4_make_54 ?_
                refine xs_istore (L' := [(4, _), (0, _), (1, _), (2, _), (3, _)]) dX4_make_57 (by decide) rfl ?_
                refine xs_aload_n 1 dX4_make_59 rfl ?_
                refine xs_iload_n 2 dX4_make_60 rfl ?_
                refine p_Mo_mode dX4_make_61 ?_
                refine xs_aload_n 1 dX4_make_64 rfl ?_
                refine xs_iload_n 3 dX4_make_65 rfl ?_
                refine p_Mo_function dX4_make_66 ?_
                refine xs_aload_n 1 dX4_make_69 rfl ?_
                refine xs_iload_n 4 dX4_make_70 rfl ?_
                refine p_Mo_most dX4_make_71 ?_
                refine xs_aload_n 1 dX4_make_74 rfl ?_
                refine xs_bipush (v := 16) dX4_make_75 (by decide) ?_
                refine p_Mo_room dX4_make_77 ?_
                refine xs_aload_n 1 dX4_make_80 rfl ?_
                refine xs_iconst (v := nI 0) dX4_make_81 rfl ?_
                refine p_Mo_size dX4_make_82 ?_
                refine xs_iload 0 dX4_make_85 rfl ?_
                exact xs_iret hX rfl dX4_make_87 (by simp [mMo_make, mMo_okMode, c6, c11, c15, c20, c25, c30, c37]) (by simp [mMo_make, mMo_okMode, c6, c11, c15, c20, c25, c30, c37, mMo_fail])
              · refine xs_goto (t := 47) dX4_make_40 (by decide) ?_
                refine xs_aload_n 0 dX4_make_47 rfl ?_
                refine xs_iconst (v := 1) dX4_make_48 (by decide) ?_
                refine k_Mo_fail dX4_make_49 kw_Mo_Mo_fail (by decide) (Nat.le_of_ble_eq_true rfl) ?_
                exact xs_iret hX rfl dX4_make_52 (by simp [mMo_make, mMo_okMode, c6, c11, c15, c20, c25, c30, c37]) (by simp [mMo_make, mMo_okMode, c6, c11, c15, c20, c25, c30, c37, mMo_fail])
theorem k_Mo_make {X : xz_X} {cA : ClassId} {own : String} {am : Nat → Nat} {cc : ByteArray} {nL : Nat} {ret : Option FieldType} {R : Room} {s : zM} {pc ix : Nat} {L : List (Nat × Value)} {st : List Value} {mode : Int32} {f : Int32} {most : Int32} (d : decode cc pc = .ok (.invokevirtual ix, 3)) (hw : xwV own ix yX4_make cX4_make 5 (some .int) 3) (hR : xroom R_Mo_make 5 R) (hst : (st.map fun v => v.category).sum ≤ 8) (kk : xs X cA own cc nL ret R (wm am cA ((mMo_make s mode f most).2)) 0 0 (pc + 3) L (.int ((mMo_make s mode f most).1) :: st)) : xs X cA own cc nL ret R (wm am cA s) 0 0 pc L (.int most :: .int f :: .int mode :: .ref (am 0) :: st) :=
  xs_call 0 (c_Mo_make am cA s mode f most) rfl rfl d hw hR rfl rfl rfl hst ⟨Nat.zero_le _, Nat.zero_le _⟩ kk
end
