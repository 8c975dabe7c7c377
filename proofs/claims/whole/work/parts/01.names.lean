-- ===== PART A: goes FIRST, ahead of the names: the tables' words, and 'selects' of the private methods out of them =====
/-- a private method of a class that the tables say can be made, by its rows of tables_1 -/
def lw_okq (q : MethodName × Nat) : Prop := (q.1.cls ≠ "java/lang/invoke/MethodHandle" ∧ q.1.cls ≠ "java/lang/invoke/VarHandle") ∧ Cond.instantiable q.1.cls q.2 ∈ tables_1 ∧ Cond.privateMethod q.1 ∈ tables_1 ∧ Cond.instanceMethod q.1 ∈ tables_1
theorem lw_p0 : lw_okq (⟨"BinMap$Bins", "placeOf", "(I)I"⟩, 7) := ⟨⟨by decide +kernel, by decide +kernel⟩, List.mem_of_getElem? (i := 22) (by decide +kernel), List.mem_of_getElem? (i := 125) (by decide +kernel), List.mem_of_getElem? (i := 126) (by decide +kernel)⟩
theorem lw_p1 : lw_okq (⟨"BinMap$Bins", "codeOf", "(I)I"⟩, 7) := ⟨⟨by decide +kernel, by decide +kernel⟩, List.mem_of_getElem? (i := 22) (by decide +kernel), List.mem_of_getElem? (i := 129) (by decide +kernel), List.mem_of_getElem? (i := 130) (by decide +kernel)⟩
theorem lw_p2 : lw_okq (⟨"BinMap", "firstSlot", "()I"⟩, 5) := ⟨⟨by decide +kernel, by decide +kernel⟩, List.mem_of_getElem? (i := 14) (by decide +kernel), List.mem_of_getElem? (i := 169) (by decide +kernel), List.mem_of_getElem? (i := 170) (by decide +kernel)⟩
theorem lw_p3 : lw_okq (⟨"BinMap", "slotBehind", "(I)I"⟩, 5) := ⟨⟨by decide +kernel, by decide +kernel⟩, List.mem_of_getElem? (i := 14) (by decide +kernel), List.mem_of_getElem? (i := 185) (by decide +kernel), List.mem_of_getElem? (i := 186) (by decide +kernel)⟩
theorem lw_p4 : lw_okq (⟨"BinMap$Line", "freeSlots", "()I"⟩, 7) := ⟨⟨by decide +kernel, by decide +kernel⟩, List.mem_of_getElem? (i := 73) (by decide +kernel), List.mem_of_getElem? (i := 206) (by decide +kernel), List.mem_of_getElem? (i := 207) (by decide +kernel)⟩
theorem lw_p5 : lw_okq (⟨"BinMap$Bins", "faultsAt", "(I)I"⟩, 7) := ⟨⟨by decide +kernel, by decide +kernel⟩, List.mem_of_getElem? (i := 22) (by decide +kernel), List.mem_of_getElem? (i := 214) (by decide +kernel), List.mem_of_getElem? (i := 215) (by decide +kernel)⟩
theorem lw_p6 : lw_okq (⟨"BinMap$Bins", "treeFaultsAt", "(I)I"⟩, 7) := ⟨⟨by decide +kernel, by decide +kernel⟩, List.mem_of_getElem? (i := 22) (by decide +kernel), List.mem_of_getElem? (i := 219) (by decide +kernel), List.mem_of_getElem? (i := 220) (by decide +kernel)⟩
theorem lw_p7 : lw_okq (⟨"BinMap$Bins", "lengthOf", "(I)I"⟩, 7) := ⟨⟨by decide +kernel, by decide +kernel⟩, List.mem_of_getElem? (i := 22) (by decide +kernel), List.mem_of_getElem? (i := 223) (by decide +kernel), List.mem_of_getElem? (i := 224) (by decide +kernel)⟩
theorem lw_p8 : lw_okq (⟨"BinMap$Trees", "heightOver", "(I)I"⟩, 5) := ⟨⟨by decide +kernel, by decide +kernel⟩, List.mem_of_getElem? (i := 28) (by decide +kernel), List.mem_of_getElem? (i := 235) (by decide +kernel), List.mem_of_getElem? (i := 236) (by decide +kernel)⟩
theorem lw_p9 : lw_okq (⟨"BinMap", "faultsBetween", "()I"⟩, 5) := ⟨⟨by decide +kernel, by decide +kernel⟩, List.mem_of_getElem? (i := 14) (by decide +kernel), List.mem_of_getElem? (i := 247) (by decide +kernel), List.mem_of_getElem? (i := 248) (by decide +kernel)⟩
theorem lw_p10 : lw_okq (⟨"BinMap", "isOvertaken", "(I)Z"⟩, 5) := ⟨⟨by decide +kernel, by decide +kernel⟩, List.mem_of_getElem? (i := 14) (by decide +kernel), List.mem_of_getElem? (i := 255) (by decide +kernel), List.mem_of_getElem? (i := 256) (by decide +kernel)⟩
theorem lw_p11 : lw_okq (⟨"java/lang/Throwable", "fillInStackTrace", "(I)Ljava/lang/Throwable;"⟩, 6) := ⟨⟨by decide +kernel, by decide +kernel⟩, List.mem_of_getElem? (i := 316) (by decide +kernel), List.mem_of_getElem? (i := 314) (by decide +kernel), List.mem_of_getElem? (i := 315) (by decide +kernel)⟩
theorem lw_p12 : lw_okq (⟨"BinMap", "fits", "(I)Z"⟩, 5) := ⟨⟨by decide +kernel, by decide +kernel⟩, List.mem_of_getElem? (i := 14) (by decide +kernel), List.mem_of_getElem? (i := 354) (by decide +kernel), List.mem_of_getElem? (i := 355) (by decide +kernel)⟩
theorem lw_p13 : lw_okq (⟨"BinMap", "come", "(II)V"⟩, 5) := ⟨⟨by decide +kernel, by decide +kernel⟩, List.mem_of_getElem? (i := 14) (by decide +kernel), List.mem_of_getElem? (i := 373) (by decide +kernel), List.mem_of_getElem? (i := 374) (by decide +kernel)⟩
theorem lw_p14 : lw_okq (⟨"BinMap$Line", "append", "(I)V"⟩, 7) := ⟨⟨by decide +kernel, by decide +kernel⟩, List.mem_of_getElem? (i := 73) (by decide +kernel), List.mem_of_getElem? (i := 381) (by decide +kernel), List.mem_of_getElem? (i := 382) (by decide +kernel)⟩
theorem lw_p15 : lw_okq (⟨"BinMap$Bins", "append", "(II)V"⟩, 7) := ⟨⟨by decide +kernel, by decide +kernel⟩, List.mem_of_getElem? (i := 22) (by decide +kernel), List.mem_of_getElem? (i := 397) (by decide +kernel), List.mem_of_getElem? (i := 398) (by decide +kernel)⟩
def lw_privs_1 : List (MethodName × Nat) := [(⟨"BinMap$Bins", "placeOf", "(I)I"⟩, 7), (⟨"BinMap$Bins", "codeOf", "(I)I"⟩, 7), (⟨"BinMap", "firstSlot", "()I"⟩, 5), (⟨"BinMap", "slotBehind", "(I)I"⟩, 5), (⟨"BinMap$Line", "freeSlots", "()I"⟩, 7), (⟨"BinMap$Bins", "faultsAt", "(I)I"⟩, 7), (⟨"BinMap$Bins", "treeFaultsAt", "(I)I"⟩, 7), (⟨"BinMap$Bins", "lengthOf", "(I)I"⟩, 7), (⟨"BinMap$Trees", "heightOver", "(I)I"⟩, 5), (⟨"BinMap", "faultsBetween", "()I"⟩, 5), (⟨"BinMap", "isOvertaken", "(I)Z"⟩, 5), (⟨"java/lang/Throwable", "fillInStackTrace", "(I)Ljava/lang/Throwable;"⟩, 6), (⟨"BinMap", "fits", "(I)Z"⟩, 5), (⟨"BinMap", "come", "(II)V"⟩, 5), (⟨"BinMap$Line", "append", "(I)V"⟩, 7), (⟨"BinMap$Bins", "append", "(II)V"⟩, 7)]
theorem lw_r1 : ∀ q ∈ lw_privs_1, lw_okq q := List.forall_mem_cons.mpr ⟨lw_p0, List.forall_mem_cons.mpr ⟨lw_p1, List.forall_mem_cons.mpr ⟨lw_p2, List.forall_mem_cons.mpr ⟨lw_p3, List.forall_mem_cons.mpr ⟨lw_p4, List.forall_mem_cons.mpr ⟨lw_p5, List.forall_mem_cons.mpr ⟨lw_p6, List.forall_mem_cons.mpr ⟨lw_p7, List.forall_mem_cons.mpr ⟨lw_p8, List.forall_mem_cons.mpr ⟨lw_p9, List.forall_mem_cons.mpr ⟨lw_p10, List.forall_mem_cons.mpr ⟨lw_p11, List.forall_mem_cons.mpr ⟨lw_p12, List.forall_mem_cons.mpr ⟨lw_p13, List.forall_mem_cons.mpr ⟨lw_p14, List.forall_mem_cons.mpr ⟨lw_p15, fun _ h => absurd h List.not_mem_nil⟩⟩⟩⟩⟩⟩⟩⟩⟩⟩⟩⟩⟩⟩⟩⟩
theorem lw_p16 : lw_okq (⟨"BinMap$Trees", "descend", "(II)I"⟩, 5) := ⟨⟨by decide +kernel, by decide +kernel⟩, List.mem_of_getElem? (i := 28) (by decide +kernel), List.mem_of_getElem? (i := 405) (by decide +kernel), List.mem_of_getElem? (i := 406) (by decide +kernel)⟩
theorem lw_p17 : lw_okq (⟨"BinMap$Trees", "climb", "(III)I"⟩, 5) := ⟨⟨by decide +kernel, by decide +kernel⟩, List.mem_of_getElem? (i := 28) (by decide +kernel), List.mem_of_getElem? (i := 409) (by decide +kernel), List.mem_of_getElem? (i := 410) (by decide +kernel)⟩
theorem lw_p18 : lw_okq (⟨"BinMap$Trees", "balance", "(I)I"⟩, 5) := ⟨⟨by decide +kernel, by decide +kernel⟩, List.mem_of_getElem? (i := 28) (by decide +kernel), List.mem_of_getElem? (i := 413) (by decide +kernel), List.mem_of_getElem? (i := 414) (by decide +kernel)⟩
theorem lw_p19 : lw_okq (⟨"BinMap$Trees", "liftFromLeft", "(I)I"⟩, 5) := ⟨⟨by decide +kernel, by decide +kernel⟩, List.mem_of_getElem? (i := 28) (by decide +kernel), List.mem_of_getElem? (i := 417) (by decide +kernel), List.mem_of_getElem? (i := 418) (by decide +kernel)⟩
theorem lw_p20 : lw_okq (⟨"BinMap$Trees", "liftFromRight", "(I)I"⟩, 5) := ⟨⟨by decide +kernel, by decide +kernel⟩, List.mem_of_getElem? (i := 28) (by decide +kernel), List.mem_of_getElem? (i := 421) (by decide +kernel), List.mem_of_getElem? (i := 422) (by decide +kernel)⟩
theorem lw_p21 : lw_okq (⟨"BinMap$Bins", "isLong", "(I)Z"⟩, 7) := ⟨⟨by decide +kernel, by decide +kernel⟩, List.mem_of_getElem? (i := 22) (by decide +kernel), List.mem_of_getElem? (i := 425) (by decide +kernel), List.mem_of_getElem? (i := 426) (by decide +kernel)⟩
theorem lw_p22 : lw_okq (⟨"BinMap", "go", "(I)V"⟩, 5) := ⟨⟨by decide +kernel, by decide +kernel⟩, List.mem_of_getElem? (i := 14) (by decide +kernel), List.mem_of_getElem? (i := 434) (by decide +kernel), List.mem_of_getElem? (i := 435) (by decide +kernel)⟩
theorem lw_p23 : lw_okq (⟨"BinMap$Bins", "unlink", "(II)V"⟩, 7) := ⟨⟨by decide +kernel, by decide +kernel⟩, List.mem_of_getElem? (i := 22) (by decide +kernel), List.mem_of_getElem? (i := 442) (by decide +kernel), List.mem_of_getElem? (i := 443) (by decide +kernel)⟩
theorem lw_p24 : lw_okq (⟨"BinMap$Line", "unlink", "(I)V"⟩, 7) := ⟨⟨by decide +kernel, by decide +kernel⟩, List.mem_of_getElem? (i := 73) (by decide +kernel), List.mem_of_getElem? (i := 454) (by decide +kernel), List.mem_of_getElem? (i := 455) (by decide +kernel)⟩
theorem lw_p25 : lw_okq (⟨"BinMap", "change", "(II)V"⟩, 5) := ⟨⟨by decide +kernel, by decide +kernel⟩, List.mem_of_getElem? (i := 14) (by decide +kernel), List.mem_of_getElem? (i := 459) (by decide +kernel), List.mem_of_getElem? (i := 460) (by decide +kernel)⟩
theorem lw_p26 : lw_okq (⟨"BinMap", "touch", "(I)V"⟩, 5) := ⟨⟨by decide +kernel, by decide +kernel⟩, List.mem_of_getElem? (i := 14) (by decide +kernel), List.mem_of_getElem? (i := 463) (by decide +kernel), List.mem_of_getElem? (i := 464) (by decide +kernel)⟩
theorem lw_p27 : lw_okq (⟨"BinMapModel", "fail", "(I)I"⟩, 10) := ⟨⟨by decide +kernel, by decide +kernel⟩, List.mem_of_getElem? (i := 515) (by decide +kernel), List.mem_of_getElem? (i := 560) (by decide +kernel), List.mem_of_getElem? (i := 561) (by decide +kernel)⟩
theorem lw_p28 : lw_okq (⟨"BinMapModel", "full", "(I)Z"⟩, 10) := ⟨⟨by decide +kernel, by decide +kernel⟩, List.mem_of_getElem? (i := 515) (by decide +kernel), List.mem_of_getElem? (i := 568) (by decide +kernel), List.mem_of_getElem? (i := 569) (by decide +kernel)⟩
theorem lw_p29 : lw_okq (⟨"BinMapModel", "at1", "(I)I"⟩, 10) := ⟨⟨by decide +kernel, by decide +kernel⟩, List.mem_of_getElem? (i := 515) (by decide +kernel), List.mem_of_getElem? (i := 572) (by decide +kernel), List.mem_of_getElem? (i := 573) (by decide +kernel)⟩
theorem lw_p30 : lw_okq (⟨"BinMapModel", "enter", "(II)V"⟩, 10) := ⟨⟨by decide +kernel, by decide +kernel⟩, List.mem_of_getElem? (i := 515) (by decide +kernel), List.mem_of_getElem? (i := 577) (by decide +kernel), List.mem_of_getElem? (i := 578) (by decide +kernel)⟩
theorem lw_p31 : lw_okq (⟨"BinMapModel", "touch", "(I)V"⟩, 10) := ⟨⟨by decide +kernel, by decide +kernel⟩, List.mem_of_getElem? (i := 515) (by decide +kernel), List.mem_of_getElem? (i := 581) (by decide +kernel), List.mem_of_getElem? (i := 582) (by decide +kernel)⟩
def lw_privs_2 : List (MethodName × Nat) := [(⟨"BinMap$Trees", "descend", "(II)I"⟩, 5), (⟨"BinMap$Trees", "climb", "(III)I"⟩, 5), (⟨"BinMap$Trees", "balance", "(I)I"⟩, 5), (⟨"BinMap$Trees", "liftFromLeft", "(I)I"⟩, 5), (⟨"BinMap$Trees", "liftFromRight", "(I)I"⟩, 5), (⟨"BinMap$Bins", "isLong", "(I)Z"⟩, 7), (⟨"BinMap", "go", "(I)V"⟩, 5), (⟨"BinMap$Bins", "unlink", "(II)V"⟩, 7), (⟨"BinMap$Line", "unlink", "(I)V"⟩, 7), (⟨"BinMap", "change", "(II)V"⟩, 5), (⟨"BinMap", "touch", "(I)V"⟩, 5), (⟨"BinMapModel", "fail", "(I)I"⟩, 10), (⟨"BinMapModel", "full", "(I)Z"⟩, 10), (⟨"BinMapModel", "at1", "(I)I"⟩, 10), (⟨"BinMapModel", "enter", "(II)V"⟩, 10), (⟨"BinMapModel", "touch", "(I)V"⟩, 10)]
theorem lw_r2 : ∀ q ∈ lw_privs_2, lw_okq q := List.forall_mem_cons.mpr ⟨lw_p16, List.forall_mem_cons.mpr ⟨lw_p17, List.forall_mem_cons.mpr ⟨lw_p18, List.forall_mem_cons.mpr ⟨lw_p19, List.forall_mem_cons.mpr ⟨lw_p20, List.forall_mem_cons.mpr ⟨lw_p21, List.forall_mem_cons.mpr ⟨lw_p22, List.forall_mem_cons.mpr ⟨lw_p23, List.forall_mem_cons.mpr ⟨lw_p24, List.forall_mem_cons.mpr ⟨lw_p25, List.forall_mem_cons.mpr ⟨lw_p26, List.forall_mem_cons.mpr ⟨lw_p27, List.forall_mem_cons.mpr ⟨lw_p28, List.forall_mem_cons.mpr ⟨lw_p29, List.forall_mem_cons.mpr ⟨lw_p30, List.forall_mem_cons.mpr ⟨lw_p31, fun _ h => absurd h List.not_mem_nil⟩⟩⟩⟩⟩⟩⟩⟩⟩⟩⟩⟩⟩⟩⟩⟩
theorem lw_p32 : lw_okq (⟨"BinMapModel", "removeAt", "(I)V"⟩, 10) := ⟨⟨by decide +kernel, by decide +kernel⟩, List.mem_of_getElem? (i := 515) (by decide +kernel), List.mem_of_getElem? (i := 585) (by decide +kernel), List.mem_of_getElem? (i := 586) (by decide +kernel)⟩
theorem lw_p33 : lw_okq (⟨"BinMapModel", "append", "(II)V"⟩, 10) := ⟨⟨by decide +kernel, by decide +kernel⟩, List.mem_of_getElem? (i := 515) (by decide +kernel), List.mem_of_getElem? (i := 589) (by decide +kernel), List.mem_of_getElem? (i := 590) (by decide +kernel)⟩
theorem lw_p34 : lw_okq (⟨"BinMapModel", "lay", "()V"⟩, 10) := ⟨⟨by decide +kernel, by decide +kernel⟩, List.mem_of_getElem? (i := 515) (by decide +kernel), List.mem_of_getElem? (i := 609) (by decide +kernel), List.mem_of_getElem? (i := 610) (by decide +kernel)⟩
theorem lw_p35 : lw_okq (⟨"BinMapModel", "place", "(I)I"⟩, 10) := ⟨⟨by decide +kernel, by decide +kernel⟩, List.mem_of_getElem? (i := 515) (by decide +kernel), List.mem_of_getElem? (i := 613) (by decide +kernel), List.mem_of_getElem? (i := 614) (by decide +kernel)⟩
def lw_privs_3 : List (MethodName × Nat) := [(⟨"BinMapModel", "removeAt", "(I)V"⟩, 10), (⟨"BinMapModel", "append", "(II)V"⟩, 10), (⟨"BinMapModel", "lay", "()V"⟩, 10), (⟨"BinMapModel", "place", "(I)I"⟩, 10)]
theorem lw_r3 : ∀ q ∈ lw_privs_3, lw_okq q := List.forall_mem_cons.mpr ⟨lw_p32, List.forall_mem_cons.mpr ⟨lw_p33, List.forall_mem_cons.mpr ⟨lw_p34, List.forall_mem_cons.mpr ⟨lw_p35, fun _ h => absurd h List.not_mem_nil⟩⟩⟩⟩
def lw_privs : List (MethodName × Nat) := lw_privs_1 ++ (lw_privs_2 ++ (lw_privs_3))
def lw_tbl : List Cond := k2_sels lw_privs ++ tables_1
theorem lw_privs_ok : ∀ q ∈ lw_privs, lw_okq q := by
  show ∀ q ∈ lw_privs_1 ++ (lw_privs_2 ++ (lw_privs_3)), lw_okq q
  exact List.forall_mem_append.mpr ⟨lw_r1, List.forall_mem_append.mpr ⟨lw_r2, lw_r3⟩⟩

def RX0 : String := "BinMap$Bins"
def TX0 : u_T := fun k => match k with
  | 0 => ("BinMap$Bins", "trees", "LBinMap$Trees;", true)
  | 1 => ("BinMap$Bins", "next", "[I", true)
  | 2 => ("BinMap$Bins", "previous", "[I", true)
  | 3 => ("BinMap$Bins", "heads", "[I", true)
  | 4 => ("BinMap$Bins", "roots", "[I", true)
  | 5 => ("BinMap$Bins", "room", "I", false)
  | _ => ("BinMap$Bins", "function", "I", false)
def tyX0 : Nat → FieldType := fun k => match k with
  | 0 => .object "BinMap$Trees"
  | 1 => .array .int
  | 2 => .array .int
  | 3 => .array .int
  | 4 => .array .int
  | 5 => .int
  | _ => .int
theorem nmX0 : ∀ a, a < 7 → ∀ b, b < 7 → a ≠ b → (TX0 a).2.1 ≠ (TX0 b).2.1 := by decide +kernel
theorem tyX0_ok : ∀ k, k < 7 → parseFieldDescriptor (TX0 k).2.2.1 = some (tyX0 k) := by decide +kernel
theorem iX0 : ∀ w ∈ u_ws RX0 TX0 7, w ∈ lw_tbl := by decide +kernel
def RX1 : String := "BinMap$Line"
def TX1 : u_T := fun k => match k with
  | 0 => ("BinMap$Line", "before", "[I", true)
  | 1 => ("BinMap$Line", "behind", "[I", true)
  | 2 => ("BinMap$Line", "ranks", "[I", true)
  | 3 => ("BinMap$Line", "first", "I", false)
  | 4 => ("BinMap$Line", "last", "I", false)
  | 5 => ("BinMap$Line", "count", "I", false)
  | _ => ("BinMap$Line", "free", "I", false)
def tyX1 : Nat → FieldType := fun k => match k with
  | 0 => .array .int
  | 1 => .array .int
  | 2 => .array .int
  | 3 => .int
  | 4 => .int
  | 5 => .int
  | _ => .int
theorem nmX1 : ∀ a, a < 7 → ∀ b, b < 7 → a ≠ b → (TX1 a).2.1 ≠ (TX1 b).2.1 := by decide +kernel
theorem tyX1_ok : ∀ k, k < 7 → parseFieldDescriptor (TX1 k).2.2.1 = some (tyX1 k) := by decide +kernel
theorem iX1 : ∀ w ∈ u_ws RX1 TX1 7, w ∈ lw_tbl := by decide +kernel
def RX2 : String := "BinMap$Trees"
def TX2 : u_T := fun k => match k with
  | 0 => ("BinMap$Trees", "keys", "[I", true)
  | 1 => ("BinMap$Trees", "left", "[I", true)
  | 2 => ("BinMap$Trees", "right", "[I", true)
  | 3 => ("BinMap$Trees", "heights", "[I", true)
  | _ => ("BinMap$Trees", "path", "[I", true)
def tyX2 : Nat → FieldType := fun k => match k with
  | 0 => .array .int
  | 1 => .array .int
  | 2 => .array .int
  | 3 => .array .int
  | _ => .array .int
theorem nmX2 : ∀ a, a < 5 → ∀ b, b < 5 → a ≠ b → (TX2 a).2.1 ≠ (TX2 b).2.1 := by decide +kernel
theorem tyX2_ok : ∀ k, k < 5 → parseFieldDescriptor (TX2 k).2.2.1 = some (tyX2 k) := by decide +kernel
theorem iX2 : ∀ w ∈ u_ws RX2 TX2 5, w ∈ lw_tbl := by decide +kernel
def RX3 : String := "BinMap"
def TX3 : u_T := fun k => match k with
  | 0 => ("BinMap", "bins", "LBinMap$Bins;", true)
  | 1 => ("BinMap", "line", "LBinMap$Line;", true)
  | 2 => ("BinMap", "numbers", "[I", true)
  | 3 => ("BinMap", "mode", "I", false)
  | _ => ("BinMap", "most", "I", false)
def tyX3 : Nat → FieldType := fun k => match k with
  | 0 => .object "BinMap$Bins"
  | 1 => .object "BinMap$Line"
  | 2 => .array .int
  | 3 => .int
  | _ => .int
theorem nmX3 : ∀ a, a < 5 → ∀ b, b < 5 → a ≠ b → (TX3 a).2.1 ≠ (TX3 b).2.1 := by decide +kernel
theorem tyX3_ok : ∀ k, k < 5 → parseFieldDescriptor (TX3 k).2.2.1 = some (tyX3 k) := by decide +kernel
theorem iX3 : ∀ w ∈ u_ws RX3 TX3 5, w ∈ lw_tbl := by decide +kernel
def RX4 : String := "BinMapModel"
def TX4 : u_T := fun k => match k with
  | 0 => ("BinMapModel", "failed", "I", false)
  | 1 => ("BinMapModel", "mode", "I", false)
  | 2 => ("BinMapModel", "function", "I", false)
  | 3 => ("BinMapModel", "most", "I", false)
  | 4 => ("BinMapModel", "room", "I", false)
  | 5 => ("BinMapModel", "size", "I", false)
  | 6 => ("BinMapModel", "keys", "[I", true)
  | 7 => ("BinMapModel", "numbers", "[I", true)
  | 8 => ("BinMapModel", "order", "[I", true)
  | _ => ("BinMapModel", "heads", "[I", true)
def tyX4 : Nat → FieldType := fun k => match k with
  | 0 => .int
  | 1 => .int
  | 2 => .int
  | 3 => .int
  | 4 => .int
  | 5 => .int
  | 6 => .array .int
  | 7 => .array .int
  | 8 => .array .int
  | _ => .array .int
theorem nmX4 : ∀ a, a < 10 → ∀ b, b < 10 → a ≠ b → (TX4 a).2.1 ≠ (TX4 b).2.1 := by decide +kernel
theorem tyX4_ok : ∀ k, k < 10 → parseFieldDescriptor (TX4 k).2.2.1 = some (tyX4 k) := by decide +kernel
theorem iX4 : ∀ w ∈ u_ws RX4 TX4 10, w ∈ lw_tbl := by decide +kernel
def RL : String := "BinMapLaw"
def RJ7 : String := "java/util/Arrays"
abbrev vwCl : List vw_C := [(RX0, TX0, 7), (RX1, TX1, 7), (RX2, TX2, 5), (RX3, TX3, 5), (RX4, TX4, 10)]
abbrev cX3_init : ByteArray := prog_1_method_1_code
def yX3_init : MethodName := ⟨RX3, "<init>", "()V"⟩
abbrev cX0_init : ByteArray := prog_2_method_1_code
def yX0_init : MethodName := ⟨RX0, "<init>", "()V"⟩
abbrev cX2_init : ByteArray := prog_4_method_1_code
def yX2_init : MethodName := ⟨RX2, "<init>", "()V"⟩
abbrev cX1_init : ByteArray := prog_3_method_1_code
def yX1_init : MethodName := ⟨RX1, "<init>", "()V"⟩
abbrev cX3_has : ByteArray := prog_1_method_5_code
def yX3_has : MethodName := ⟨RX3, "has", "(I)Z"⟩
abbrev cX0_slotOf : ByteArray := prog_2_method_8_code
def yX0_slotOf : MethodName := ⟨RX0, "slotOf", "(I)I"⟩
abbrev cX0_placeOf : ByteArray := prog_2_method_19_code
def yX0_placeOf : MethodName := ⟨RX0, "placeOf", "(I)I"⟩
abbrev cX0_codeOf : ByteArray := prog_2_method_20_code
def yX0_codeOf : MethodName := ⟨RX0, "codeOf", "(I)I"⟩
abbrev cX2_slotOf : ByteArray := prog_4_method_5_code
def yX2_slotOf : MethodName := ⟨RX2, "slotOf", "(II)I"⟩
abbrev cX2_keyOf : ByteArray := prog_4_method_2_code
def yX2_keyOf : MethodName := ⟨RX2, "keyOf", "(I)I"⟩
abbrev cX3_size : ByteArray := prog_1_method_9_code
def yX3_size : MethodName := ⟨RX3, "size", "()I"⟩
abbrev cX1_count : ByteArray := prog_3_method_2_code
def yX1_count : MethodName := ⟨RX1, "count", "()I"⟩
abbrev cX3_clear : ByteArray := prog_1_method_10_code
def yX3_clear : MethodName := ⟨RX3, "clear", "()I"⟩
abbrev cX1_drain : ByteArray := prog_3_method_10_code
def yX1_drain : MethodName := ⟨RX1, "drain", "()V"⟩
abbrev cX0_drain : ByteArray := prog_2_method_3_code
def yX0_drain : MethodName := ⟨RX0, "drain", "()V"⟩
abbrev cJ7_fill : ByteArray := prog_12_method_103_code
def yJ7_fill : MethodName := ⟨RJ7, "fill", "([II)V"⟩
abbrev cX3_hash : ByteArray := prog_1_method_11_code
def yX3_hash : MethodName := ⟨RX3, "hash", "()I"⟩
abbrev cX3_firstSlot : ByteArray := prog_1_method_19_code
def yX3_firstSlot : MethodName := ⟨RX3, "firstSlot", "()I"⟩
abbrev cX0_firstFrom : ByteArray := prog_2_method_9_code
def yX0_firstFrom : MethodName := ⟨RX0, "firstFrom", "(I)I"⟩
abbrev cX1_first : ByteArray := prog_3_method_3_code
def yX1_first : MethodName := ⟨RX1, "first", "()I"⟩
abbrev cX0_keyOf : ByteArray := prog_2_method_6_code
def yX0_keyOf : MethodName := ⟨RX0, "keyOf", "(I)I"⟩
abbrev cX3_slotBehind : ByteArray := prog_1_method_20_code
def yX3_slotBehind : MethodName := ⟨RX3, "slotBehind", "(I)I"⟩
abbrev cX0_behind : ByteArray := prog_2_method_11_code
def yX0_behind : MethodName := ⟨RX0, "behind", "(I)I"⟩
abbrev cX1_behind : ByteArray := prog_3_method_4_code
def yX1_behind : MethodName := ⟨RX1, "behind", "(I)I"⟩
abbrev cX3_wrong : ByteArray := prog_1_method_12_code
def yX3_wrong : MethodName := ⟨RX3, "wrong", "()I"⟩
abbrev cX1_faults : ByteArray := prog_3_method_11_code
def yX1_faults : MethodName := ⟨RX1, "faults", "()I"⟩
abbrev cX1_freeSlots : ByteArray := prog_3_method_12_code
def yX1_freeSlots : MethodName := ⟨RX1, "freeSlots", "()I"⟩
abbrev cX0_faults : ByteArray := prog_2_method_14_code
def yX0_faults : MethodName := ⟨RX0, "faults", "(I)I"⟩
abbrev cX0_faultsAt : ByteArray := prog_2_method_15_code
def yX0_faultsAt : MethodName := ⟨RX0, "faultsAt", "(I)I"⟩
abbrev cX0_treeFaultsAt : ByteArray := prog_2_method_16_code
def yX0_treeFaultsAt : MethodName := ⟨RX0, "treeFaultsAt", "(I)I"⟩
abbrev cX0_lengthOf : ByteArray := prog_2_method_17_code
def yX0_lengthOf : MethodName := ⟨RX0, "lengthOf", "(I)I"⟩
abbrev cX2_heightOf : ByteArray := prog_4_method_4_code
def yX2_heightOf : MethodName := ⟨RX2, "heightOf", "(I)I"⟩
abbrev cX2_faultsAt : ByteArray := prog_4_method_8_code
def yX2_faultsAt : MethodName := ⟨RX2, "faultsAt", "(I)I"⟩
abbrev cX2_heightOver : ByteArray := prog_4_method_15_code
def yX2_heightOver : MethodName := ⟨RX2, "heightOver", "(I)I"⟩
abbrev cX2_branchesOf : ByteArray := prog_4_method_9_code
def yX2_branchesOf : MethodName := ⟨RX2, "branchesOf", "(I)I"⟩
abbrev cX0_isTight : ByteArray := prog_2_method_4_code
def yX0_isTight : MethodName := ⟨RX0, "isTight", "(I)Z"⟩
abbrev cX3_faultsBetween : ByteArray := prog_1_method_21_code
def yX3_faultsBetween : MethodName := ⟨RX3, "faultsBetween", "()I"⟩
abbrev cX1_rank : ByteArray := prog_3_method_6_code
def yX1_rank : MethodName := ⟨RX1, "rank", "()V"⟩
abbrev cX3_isOvertaken : ByteArray := prog_1_method_22_code
def yX3_isOvertaken : MethodName := ⟨RX3, "isOvertaken", "(I)Z"⟩
abbrev cX0_nextInPlace : ByteArray := prog_2_method_10_code
def yX0_nextInPlace : MethodName := ⟨RX0, "nextInPlace", "(I)I"⟩
abbrev cX1_rankOf : ByteArray := prog_3_method_5_code
def yX1_rankOf : MethodName := ⟨RX1, "rankOf", "(I)I"⟩
abbrev cL_make : ByteArray := method_3_code
def yL_make : MethodName := ⟨RL, "make", "(LBinMap;III[J)I"⟩
abbrev cX3_make : ByteArray := prog_1_method_2_code
def yX3_make : MethodName := ⟨RX3, "make", "(III)I"⟩
abbrev cX3_isMode : ByteArray := prog_1_method_13_code
def yX3_isMode : MethodName := ⟨RX3, "isMode", "(II)Z"⟩
abbrev cX0_begin : ByteArray := prog_2_method_2_code
def yX0_begin : MethodName := ⟨RX0, "begin", "(I)V"⟩
abbrev cL_put : ByteArray := method_4_code
def yL_put : MethodName := ⟨RL, "put", "(LBinMap;II[J)I"⟩
abbrev cX3_put : ByteArray := prog_1_method_3_code
def yX3_put : MethodName := ⟨RX3, "put", "(II)J"⟩
abbrev cX3_fits : ByteArray := prog_1_method_14_code
def yX3_fits : MethodName := ⟨RX3, "fits", "(I)Z"⟩
abbrev cX3_come : ByteArray := prog_1_method_15_code
def yX3_come : MethodName := ⟨RX3, "come", "(II)V"⟩
abbrev cX1_join : ByteArray := prog_3_method_7_code
def yX1_join : MethodName := ⟨RX1, "join", "()I"⟩
abbrev cX1_append : ByteArray := prog_3_method_13_code
def yX1_append : MethodName := ⟨RX1, "append", "(I)V"⟩
abbrev cX0_name : ByteArray := prog_2_method_7_code
def yX0_name : MethodName := ⟨RX0, "name", "(II)V"⟩
abbrev cX2_name : ByteArray := prog_4_method_3_code
def yX2_name : MethodName := ⟨RX2, "name", "(II)V"⟩
abbrev cX0_add : ByteArray := prog_2_method_12_code
def yX0_add : MethodName := ⟨RX0, "add", "(I)V"⟩
abbrev cX0_append : ByteArray := prog_2_method_21_code
def yX0_append : MethodName := ⟨RX0, "append", "(II)V"⟩
abbrev cX2_with : ByteArray := prog_4_method_6_code
def yX2_with : MethodName := ⟨RX2, "with", "(II)I"⟩
abbrev cX2_descend : ByteArray := prog_4_method_10_code
def yX2_descend : MethodName := ⟨RX2, "descend", "(II)I"⟩
abbrev cX2_climb : ByteArray := prog_4_method_11_code
def yX2_climb : MethodName := ⟨RX2, "climb", "(III)I"⟩
abbrev cX2_balance : ByteArray := prog_4_method_12_code
def yX2_balance : MethodName := ⟨RX2, "balance", "(I)I"⟩
abbrev cX2_liftFromLeft : ByteArray := prog_4_method_13_code
def yX2_liftFromLeft : MethodName := ⟨RX2, "liftFromLeft", "(I)I"⟩
abbrev cX2_liftFromRight : ByteArray := prog_4_method_14_code
def yX2_liftFromRight : MethodName := ⟨RX2, "liftFromRight", "(I)I"⟩
abbrev cX0_isLong : ByteArray := prog_2_method_18_code
def yX0_isLong : MethodName := ⟨RX0, "isLong", "(I)Z"⟩
abbrev cX0_stretch : ByteArray := prog_2_method_5_code
def yX0_stretch : MethodName := ⟨RX0, "stretch", "()V"⟩
abbrev cX3_go : ByteArray := prog_1_method_18_code
def yX3_go : MethodName := ⟨RX3, "go", "(I)V"⟩
abbrev cX0_remove : ByteArray := prog_2_method_13_code
def yX0_remove : MethodName := ⟨RX0, "remove", "(I)V"⟩
abbrev cX0_unlink : ByteArray := prog_2_method_22_code
def yX0_unlink : MethodName := ⟨RX0, "unlink", "(II)V"⟩
abbrev cX2_without : ByteArray := prog_4_method_7_code
def yX2_without : MethodName := ⟨RX2, "without", "(II)I"⟩
abbrev cX1_leave : ByteArray := prog_3_method_8_code
def yX1_leave : MethodName := ⟨RX1, "leave", "(I)V"⟩
abbrev cX1_unlink : ByteArray := prog_3_method_14_code
def yX1_unlink : MethodName := ⟨RX1, "unlink", "(I)V"⟩
abbrev cX3_change : ByteArray := prog_1_method_16_code
def yX3_change : MethodName := ⟨RX3, "change", "(II)V"⟩
abbrev cX3_touch : ByteArray := prog_1_method_17_code
def yX3_touch : MethodName := ⟨RX3, "touch", "(I)V"⟩
abbrev cX1_moveToEnd : ByteArray := prog_3_method_9_code
def yX1_moveToEnd : MethodName := ⟨RX1, "moveToEnd", "(I)V"⟩
abbrev cL_find : ByteArray := method_5_code
def yL_find : MethodName := ⟨RL, "find", "(LBinMap;IZ[J)I"⟩
abbrev cX3_find : ByteArray := prog_1_method_4_code
def yX3_find : MethodName := ⟨RX3, "find", "(IZ)I"⟩
abbrev cL_fill : ByteArray := method_6_code
def yL_fill : MethodName := ⟨RL, "fill", "(LBinMap;III[J)I"⟩
abbrev cX3_fill : ByteArray := prog_1_method_6_code
def yX3_fill : MethodName := ⟨RX3, "fill", "(III)I"⟩
abbrev cL_at : ByteArray := method_7_code
def yL_at : MethodName := ⟨RL, "at", "(LBinMap;I[J)I"⟩
abbrev cX3_at : ByteArray := prog_1_method_7_code
def yX3_at : MethodName := ⟨RX3, "at", "(I)I"⟩
abbrev cL_after : ByteArray := method_8_code
def yL_after : MethodName := ⟨RL, "after", "(LBinMap;I[J)I"⟩
abbrev cX3_after : ByteArray := prog_1_method_8_code
def yX3_after : MethodName := ⟨RX3, "after", "(I)I"⟩
abbrev cX4_init : ByteArray := prog_6_method_1_code
def yX4_init : MethodName := ⟨RX4, "<init>", "()V"⟩
abbrev cX4_thrown : ByteArray := prog_6_method_2_code
def yX4_thrown : MethodName := ⟨RX4, "thrown", "()I"⟩
abbrev cX4_make : ByteArray := prog_6_method_4_code
def yX4_make : MethodName := ⟨RX4, "make", "(III)I"⟩
abbrev cX4_fail : ByteArray := prog_6_method_3_code
def yX4_fail : MethodName := ⟨RX4, "fail", "(I)I"⟩
abbrev cX4_put : ByteArray := prog_6_method_12_code
def yX4_put : MethodName := ⟨RX4, "put", "(II)J"⟩
abbrev cX4_full : ByteArray := prog_6_method_10_code
def yX4_full : MethodName := ⟨RX4, "full", "(I)Z"⟩
abbrev cX4_at1 : ByteArray := prog_6_method_5_code
def yX4_at1 : MethodName := ⟨RX4, "at1", "(I)I"⟩
abbrev cX4_enter : ByteArray := prog_6_method_11_code
def yX4_enter : MethodName := ⟨RX4, "enter", "(II)V"⟩
abbrev cX4_touch : ByteArray := prog_6_method_9_code
def yX4_touch : MethodName := ⟨RX4, "touch", "(I)V"⟩
abbrev cX4_removeAt : ByteArray := prog_6_method_7_code
def yX4_removeAt : MethodName := ⟨RX4, "removeAt", "(I)V"⟩
abbrev cX4_append : ByteArray := prog_6_method_8_code
def yX4_append : MethodName := ⟨RX4, "append", "(II)V"⟩
abbrev cX4_find : ByteArray := prog_6_method_13_code
def yX4_find : MethodName := ⟨RX4, "find", "(IZ)I"⟩
abbrev cX4_has : ByteArray := prog_6_method_14_code
def yX4_has : MethodName := ⟨RX4, "has", "(I)Z"⟩
abbrev cX4_fill : ByteArray := prog_6_method_15_code
def yX4_fill : MethodName := ⟨RX4, "fill", "(III)I"⟩
abbrev cX4_at : ByteArray := prog_6_method_17_code
def yX4_at : MethodName := ⟨RX4, "at", "(I)I"⟩
abbrev cX4_lay : ByteArray := prog_6_method_16_code
def yX4_lay : MethodName := ⟨RX4, "lay", "()V"⟩
abbrev cX4_place : ByteArray := prog_6_method_6_code
def yX4_place : MethodName := ⟨RX4, "place", "(I)I"⟩
abbrev cX4_after : ByteArray := prog_6_method_18_code
def yX4_after : MethodName := ⟨RX4, "after", "(I)I"⟩
abbrev cX4_size : ByteArray := prog_6_method_19_code
def yX4_size : MethodName := ⟨RX4, "size", "()I"⟩
abbrev cX4_clear : ByteArray := prog_6_method_20_code
def yX4_clear : MethodName := ⟨RX4, "clear", "()I"⟩
abbrev cX4_hash : ByteArray := prog_6_method_21_code
def yX4_hash : MethodName := ⟨RX4, "hash", "()I"⟩
abbrev cX4_wrong : ByteArray := prog_6_method_22_code
def yX4_wrong : MethodName := ⟨RX4, "wrong", "()I"⟩
