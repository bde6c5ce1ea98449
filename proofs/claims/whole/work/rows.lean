section
-- ===== PART A: goes FIRST, ahead of the names: the tables' words, and 'selects' of the private methods out of them =====
/-- a private method of a class that the tables say can be made, by its rows of tables_1 -/
def lw_okq (q : MethodName × Nat) : Prop := (q.1.cls ≠ "java/lang/invoke/MethodHandle" ∧ q.1.cls ≠ "java/lang/invoke/VarHandle") ∧ Cond.instantiable q.1.cls q.2 ∈ tables_1 ∧ Cond.privateMethod q.1 ∈ tables_1 ∧ Cond.instanceMethod q.1 ∈ tables_1
theorem lw_p0 : lw_okq (⟨"FlagHoists$Reader", "readItem", "()Z"⟩, 3) := ⟨⟨by decide +kernel, by decide +kernel⟩, List.mem_of_getElem? (i := 49) (by decide +kernel), List.mem_of_getElem? (i := 307) (by decide +kernel), List.mem_of_getElem? (i := 308) (by decide +kernel)⟩
theorem lw_p1 : lw_okq (⟨"FlagHoists$Reader", "readPlaces", "()Z"⟩, 3) := ⟨⟨by decide +kernel, by decide +kernel⟩, List.mem_of_getElem? (i := 49) (by decide +kernel), List.mem_of_getElem? (i := 311) (by decide +kernel), List.mem_of_getElem? (i := 312) (by decide +kernel)⟩
theorem lw_p2 : lw_okq (⟨"FlagHoists$Reader", "take", "(III)I"⟩, 3) := ⟨⟨by decide +kernel, by decide +kernel⟩, List.mem_of_getElem? (i := 49) (by decide +kernel), List.mem_of_getElem? (i := 316) (by decide +kernel), List.mem_of_getElem? (i := 317) (by decide +kernel)⟩
theorem lw_p3 : lw_okq (⟨"FlagHoists$Reader", "readFlag", "()Z"⟩, 3) := ⟨⟨by decide +kernel, by decide +kernel⟩, List.mem_of_getElem? (i := 49) (by decide +kernel), List.mem_of_getElem? (i := 320) (by decide +kernel), List.mem_of_getElem? (i := 321) (by decide +kernel)⟩
theorem lw_p4 : lw_okq (⟨"FlagHoists$Reader", "readCode", "()Z"⟩, 3) := ⟨⟨by decide +kernel, by decide +kernel⟩, List.mem_of_getElem? (i := 49) (by decide +kernel), List.mem_of_getElem? (i := 324) (by decide +kernel), List.mem_of_getElem? (i := 325) (by decide +kernel)⟩
theorem lw_p5 : lw_okq (⟨"FlagHoists$Cut", "findFewest", "(I)Z"⟩, 10) := ⟨⟨by decide +kernel, by decide +kernel⟩, List.mem_of_getElem? (i := 178) (by decide +kernel), List.mem_of_getElem? (i := 430) (by decide +kernel), List.mem_of_getElem? (i := 431) (by decide +kernel)⟩
theorem lw_p6 : lw_okq (⟨"FlagHoists$Rope", "addThing", "(I)Z"⟩, 7) := ⟨⟨by decide +kernel, by decide +kernel⟩, List.mem_of_getElem? (i := 184) (by decide +kernel), List.mem_of_getElem? (i := 445) (by decide +kernel), List.mem_of_getElem? (i := 446) (by decide +kernel)⟩
theorem lw_p7 : lw_okq (⟨"FlagHoists$Rope", "addLetter", "(I)Z"⟩, 7) := ⟨⟨by decide +kernel, by decide +kernel⟩, List.mem_of_getElem? (i := 184) (by decide +kernel), List.mem_of_getElem? (i := 450) (by decide +kernel), List.mem_of_getElem? (i := 451) (by decide +kernel)⟩
theorem lw_p8 : lw_okq (⟨"FlagHoists$Rope", "isThere", "(I)Z"⟩, 7) := ⟨⟨by decide +kernel, by decide +kernel⟩, List.mem_of_getElem? (i := 184) (by decide +kernel), List.mem_of_getElem? (i := 454) (by decide +kernel), List.mem_of_getElem? (i := 455) (by decide +kernel)⟩
theorem lw_p9 : lw_okq (⟨"FlagHoists$Rope", "freeSubstitute", "(I)I"⟩, 7) := ⟨⟨by decide +kernel, by decide +kernel⟩, List.mem_of_getElem? (i := 184) (by decide +kernel), List.mem_of_getElem? (i := 458) (by decide +kernel), List.mem_of_getElem? (i := 459) (by decide +kernel)⟩
theorem lw_p10 : lw_okq (⟨"FlagHoists$Book", "flagMayBe", "(III)Z"⟩, 5) := ⟨⟨by decide +kernel, by decide +kernel⟩, List.mem_of_getElem? (i := 55) (by decide +kernel), List.mem_of_getElem? (i := 518) (by decide +kernel), List.mem_of_getElem? (i := 519) (by decide +kernel)⟩
theorem lw_p11 : lw_okq (⟨"FlagHoists$Book", "isBlurred", "(II)Z"⟩, 5) := ⟨⟨by decide +kernel, by decide +kernel⟩, List.mem_of_getElem? (i := 55) (by decide +kernel), List.mem_of_getElem? (i := 522) (by decide +kernel), List.mem_of_getElem? (i := 523) (by decide +kernel)⟩
theorem lw_p12 : lw_okq (⟨"FlagHoists$Cut", "isReadOneWay", "(I)Z"⟩, 10) := ⟨⟨by decide +kernel, by decide +kernel⟩, List.mem_of_getElem? (i := 178) (by decide +kernel), List.mem_of_getElem? (i := 581) (by decide +kernel), List.mem_of_getElem? (i := 582) (by decide +kernel)⟩
theorem lw_p13 : lw_okq (⟨"FlagHoistsModel", "reads", "()Z"⟩, 29) := ⟨⟨by decide +kernel, by decide +kernel⟩, List.mem_of_getElem? (i := 585) (by decide +kernel), List.mem_of_getElem? (i := 698) (by decide +kernel), List.mem_of_getElem? (i := 699) (by decide +kernel)⟩
theorem lw_p14 : lw_okq (⟨"FlagHoistsModel", "take", "()V"⟩, 29) := ⟨⟨by decide +kernel, by decide +kernel⟩, List.mem_of_getElem? (i := 585) (by decide +kernel), List.mem_of_getElem? (i := 702) (by decide +kernel), List.mem_of_getElem? (i := 703) (by decide +kernel)⟩
theorem lw_p15 : lw_okq (⟨"FlagHoistsModel", "readsItem", "()Z"⟩, 29) := ⟨⟨by decide +kernel, by decide +kernel⟩, List.mem_of_getElem? (i := 585) (by decide +kernel), List.mem_of_getElem? (i := 711) (by decide +kernel), List.mem_of_getElem? (i := 712) (by decide +kernel)⟩
def lw_privs_1 : List (MethodName × Nat) := [(⟨"FlagHoists$Reader", "readItem", "()Z"⟩, 3), (⟨"FlagHoists$Reader", "readPlaces", "()Z"⟩, 3), (⟨"FlagHoists$Reader", "take", "(III)I"⟩, 3), (⟨"FlagHoists$Reader", "readFlag", "()Z"⟩, 3), (⟨"FlagHoists$Reader", "readCode", "()Z"⟩, 3), (⟨"FlagHoists$Cut", "findFewest", "(I)Z"⟩, 10), (⟨"FlagHoists$Rope", "addThing", "(I)Z"⟩, 7), (⟨"FlagHoists$Rope", "addLetter", "(I)Z"⟩, 7), (⟨"FlagHoists$Rope", "isThere", "(I)Z"⟩, 7), (⟨"FlagHoists$Rope", "freeSubstitute", "(I)I"⟩, 7), (⟨"FlagHoists$Book", "flagMayBe", "(III)Z"⟩, 5), (⟨"FlagHoists$Book", "isBlurred", "(II)Z"⟩, 5), (⟨"FlagHoists$Cut", "isReadOneWay", "(I)Z"⟩, 10), (⟨"FlagHoistsModel", "reads", "()Z"⟩, 29), (⟨"FlagHoistsModel", "take", "()V"⟩, 29), (⟨"FlagHoistsModel", "readsItem", "()Z"⟩, 29)]
theorem lw_r1 : ∀ q ∈ lw_privs_1, lw_okq q := List.forall_mem_cons.mpr ⟨lw_p0, List.forall_mem_cons.mpr ⟨lw_p1, List.forall_mem_cons.mpr ⟨lw_p2, List.forall_mem_cons.mpr ⟨lw_p3, List.forall_mem_cons.mpr ⟨lw_p4, List.forall_mem_cons.mpr ⟨lw_p5, List.forall_mem_cons.mpr ⟨lw_p6, List.forall_mem_cons.mpr ⟨lw_p7, List.forall_mem_cons.mpr ⟨lw_p8, List.forall_mem_cons.mpr ⟨lw_p9, List.forall_mem_cons.mpr ⟨lw_p10, List.forall_mem_cons.mpr ⟨lw_p11, List.forall_mem_cons.mpr ⟨lw_p12, List.forall_mem_cons.mpr ⟨lw_p13, List.forall_mem_cons.mpr ⟨lw_p14, List.forall_mem_cons.mpr ⟨lw_p15, fun _ h => absurd h List.not_mem_nil⟩⟩⟩⟩⟩⟩⟩⟩⟩⟩⟩⟩⟩⟩⟩⟩
theorem lw_p16 : lw_okq (⟨"FlagHoistsModel", "readsPlaces", "()Z"⟩, 29) := ⟨⟨by decide +kernel, by decide +kernel⟩, List.mem_of_getElem? (i := 585) (by decide +kernel), List.mem_of_getElem? (i := 715) (by decide +kernel), List.mem_of_getElem? (i := 716) (by decide +kernel)⟩
theorem lw_p17 : lw_okq (⟨"FlagHoistsModel", "isNumber", "(II)Z"⟩, 29) := ⟨⟨by decide +kernel, by decide +kernel⟩, List.mem_of_getElem? (i := 585) (by decide +kernel), List.mem_of_getElem? (i := 719) (by decide +kernel), List.mem_of_getElem? (i := 720) (by decide +kernel)⟩
theorem lw_p18 : lw_okq (⟨"FlagHoistsModel", "readsEnd", "()Z"⟩, 29) := ⟨⟨by decide +kernel, by decide +kernel⟩, List.mem_of_getElem? (i := 585) (by decide +kernel), List.mem_of_getElem? (i := 723) (by decide +kernel), List.mem_of_getElem? (i := 724) (by decide +kernel)⟩
theorem lw_p19 : lw_okq (⟨"FlagHoistsModel", "readsFlag", "()Z"⟩, 29) := ⟨⟨by decide +kernel, by decide +kernel⟩, List.mem_of_getElem? (i := 585) (by decide +kernel), List.mem_of_getElem? (i := 727) (by decide +kernel), List.mem_of_getElem? (i := 728) (by decide +kernel)⟩
theorem lw_p20 : lw_okq (⟨"FlagHoistsModel", "isFlag", "()Z"⟩, 29) := ⟨⟨by decide +kernel, by decide +kernel⟩, List.mem_of_getElem? (i := 585) (by decide +kernel), List.mem_of_getElem? (i := 731) (by decide +kernel), List.mem_of_getElem? (i := 732) (by decide +kernel)⟩
theorem lw_p21 : lw_okq (⟨"FlagHoistsModel", "readsCode", "()Z"⟩, 29) := ⟨⟨by decide +kernel, by decide +kernel⟩, List.mem_of_getElem? (i := 585) (by decide +kernel), List.mem_of_getElem? (i := 737) (by decide +kernel), List.mem_of_getElem? (i := 738) (by decide +kernel)⟩
theorem lw_p22 : lw_okq (⟨"FlagHoistsModel", "isNew", "(I)Z"⟩, 29) := ⟨⟨by decide +kernel, by decide +kernel⟩, List.mem_of_getElem? (i := 585) (by decide +kernel), List.mem_of_getElem? (i := 741) (by decide +kernel), List.mem_of_getElem? (i := 742) (by decide +kernel)⟩
theorem lw_p23 : lw_okq (⟨"FlagHoistsModel", "isSentence", "(I)Z"⟩, 29) := ⟨⟨by decide +kernel, by decide +kernel⟩, List.mem_of_getElem? (i := 585) (by decide +kernel), List.mem_of_getElem? (i := 754) (by decide +kernel), List.mem_of_getElem? (i := 755) (by decide +kernel)⟩
theorem lw_p24 : lw_okq (⟨"FlagHoistsModel", "atRank", "(I)I"⟩, 29) := ⟨⟨by decide +kernel, by decide +kernel⟩, List.mem_of_getElem? (i := 585) (by decide +kernel), List.mem_of_getElem? (i := 762) (by decide +kernel), List.mem_of_getElem? (i := 763) (by decide +kernel)⟩
theorem lw_p25 : lw_okq (⟨"FlagHoistsModel", "asNumber", "(I)I"⟩, 29) := ⟨⟨by decide +kernel, by decide +kernel⟩, List.mem_of_getElem? (i := 585) (by decide +kernel), List.mem_of_getElem? (i := 766) (by decide +kernel), List.mem_of_getElem? (i := 767) (by decide +kernel)⟩
theorem lw_p26 : lw_okq (⟨"FlagHoistsModel", "makes", "(I)V"⟩, 29) := ⟨⟨by decide +kernel, by decide +kernel⟩, List.mem_of_getElem? (i := 585) (by decide +kernel), List.mem_of_getElem? (i := 783) (by decide +kernel), List.mem_of_getElem? (i := 784) (by decide +kernel)⟩
theorem lw_p27 : lw_okq (⟨"FlagHoistsModel", "cutBy", "(I)I"⟩, 29) := ⟨⟨by decide +kernel, by decide +kernel⟩, List.mem_of_getElem? (i := 585) (by decide +kernel), List.mem_of_getElem? (i := 787) (by decide +kernel), List.mem_of_getElem? (i := 788) (by decide +kernel)⟩
theorem lw_p28 : lw_okq (⟨"FlagHoistsModel", "shows", "(II)I"⟩, 29) := ⟨⟨by decide +kernel, by decide +kernel⟩, List.mem_of_getElem? (i := 585) (by decide +kernel), List.mem_of_getElem? (i := 791) (by decide +kernel), List.mem_of_getElem? (i := 792) (by decide +kernel)⟩
theorem lw_p29 : lw_okq (⟨"FlagHoistsModel", "shownFor", "(III)I"⟩, 29) := ⟨⟨by decide +kernel, by decide +kernel⟩, List.mem_of_getElem? (i := 585) (by decide +kernel), List.mem_of_getElem? (i := 795) (by decide +kernel), List.mem_of_getElem? (i := 796) (by decide +kernel)⟩
theorem lw_p30 : lw_okq (⟨"FlagHoistsModel", "things", "(I)I"⟩, 29) := ⟨⟨by decide +kernel, by decide +kernel⟩, List.mem_of_getElem? (i := 585) (by decide +kernel), List.mem_of_getElem? (i := 799) (by decide +kernel), List.mem_of_getElem? (i := 800) (by decide +kernel)⟩
theorem lw_p31 : lw_okq (⟨"FlagHoistsModel", "minds", "()V"⟩, 29) := ⟨⟨by decide +kernel, by decide +kernel⟩, List.mem_of_getElem? (i := 585) (by decide +kernel), List.mem_of_getElem? (i := 813) (by decide +kernel), List.mem_of_getElem? (i := 814) (by decide +kernel)⟩
def lw_privs_2 : List (MethodName × Nat) := [(⟨"FlagHoistsModel", "readsPlaces", "()Z"⟩, 29), (⟨"FlagHoistsModel", "isNumber", "(II)Z"⟩, 29), (⟨"FlagHoistsModel", "readsEnd", "()Z"⟩, 29), (⟨"FlagHoistsModel", "readsFlag", "()Z"⟩, 29), (⟨"FlagHoistsModel", "isFlag", "()Z"⟩, 29), (⟨"FlagHoistsModel", "readsCode", "()Z"⟩, 29), (⟨"FlagHoistsModel", "isNew", "(I)Z"⟩, 29), (⟨"FlagHoistsModel", "isSentence", "(I)Z"⟩, 29), (⟨"FlagHoistsModel", "atRank", "(I)I"⟩, 29), (⟨"FlagHoistsModel", "asNumber", "(I)I"⟩, 29), (⟨"FlagHoistsModel", "makes", "(I)V"⟩, 29), (⟨"FlagHoistsModel", "cutBy", "(I)I"⟩, 29), (⟨"FlagHoistsModel", "shows", "(II)I"⟩, 29), (⟨"FlagHoistsModel", "shownFor", "(III)I"⟩, 29), (⟨"FlagHoistsModel", "things", "(I)I"⟩, 29), (⟨"FlagHoistsModel", "minds", "()V"⟩, 29)]
theorem lw_r2 : ∀ q ∈ lw_privs_2, lw_okq q := List.forall_mem_cons.mpr ⟨lw_p16, List.forall_mem_cons.mpr ⟨lw_p17, List.forall_mem_cons.mpr ⟨lw_p18, List.forall_mem_cons.mpr ⟨lw_p19, List.forall_mem_cons.mpr ⟨lw_p20, List.forall_mem_cons.mpr ⟨lw_p21, List.forall_mem_cons.mpr ⟨lw_p22, List.forall_mem_cons.mpr ⟨lw_p23, List.forall_mem_cons.mpr ⟨lw_p24, List.forall_mem_cons.mpr ⟨lw_p25, List.forall_mem_cons.mpr ⟨lw_p26, List.forall_mem_cons.mpr ⟨lw_p27, List.forall_mem_cons.mpr ⟨lw_p28, List.forall_mem_cons.mpr ⟨lw_p29, List.forall_mem_cons.mpr ⟨lw_p30, List.forall_mem_cons.mpr ⟨lw_p31, fun _ h => absurd h List.not_mem_nil⟩⟩⟩⟩⟩⟩⟩⟩⟩⟩⟩⟩⟩⟩⟩⟩
theorem lw_p32 : lw_okq (⟨"FlagHoistsModel", "copy", "(II)V"⟩, 29) := ⟨⟨by decide +kernel, by decide +kernel⟩, List.mem_of_getElem? (i := 585) (by decide +kernel), List.mem_of_getElem? (i := 817) (by decide +kernel), List.mem_of_getElem? (i := 818) (by decide +kernel)⟩
theorem lw_p33 : lw_okq (⟨"FlagHoistsModel", "none", "()V"⟩, 29) := ⟨⟨by decide +kernel, by decide +kernel⟩, List.mem_of_getElem? (i := 585) (by decide +kernel), List.mem_of_getElem? (i := 821) (by decide +kernel), List.mem_of_getElem? (i := 822) (by decide +kernel)⟩
theorem lw_p34 : lw_okq (⟨"FlagHoistsModel", "isTold", "(III)Z"⟩, 29) := ⟨⟨by decide +kernel, by decide +kernel⟩, List.mem_of_getElem? (i := 585) (by decide +kernel), List.mem_of_getElem? (i := 850) (by decide +kernel), List.mem_of_getElem? (i := 851) (by decide +kernel)⟩
theorem lw_p35 : lw_okq (⟨"FlagHoistsModel", "mayBe", "(III)Z"⟩, 29) := ⟨⟨by decide +kernel, by decide +kernel⟩, List.mem_of_getElem? (i := 585) (by decide +kernel), List.mem_of_getElem? (i := 854) (by decide +kernel), List.mem_of_getElem? (i := 855) (by decide +kernel)⟩
theorem lw_p36 : lw_okq (⟨"FlagHoistsModel", "ways", "(II)I"⟩, 29) := ⟨⟨by decide +kernel, by decide +kernel⟩, List.mem_of_getElem? (i := 585) (by decide +kernel), List.mem_of_getElem? (i := 862) (by decide +kernel), List.mem_of_getElem? (i := 863) (by decide +kernel)⟩
theorem lw_p37 : lw_okq (⟨"FlagHoistsModel", "count0", "(I)I"⟩, 29) := ⟨⟨by decide +kernel, by decide +kernel⟩, List.mem_of_getElem? (i := 585) (by decide +kernel), List.mem_of_getElem? (i := 890) (by decide +kernel), List.mem_of_getElem? (i := 891) (by decide +kernel)⟩
theorem lw_p38 : lw_okq (⟨"FlagHoistsModel", "farthest", "()I"⟩, 29) := ⟨⟨by decide +kernel, by decide +kernel⟩, List.mem_of_getElem? (i := 585) (by decide +kernel), List.mem_of_getElem? (i := 894) (by decide +kernel), List.mem_of_getElem? (i := 895) (by decide +kernel)⟩
def lw_privs_3 : List (MethodName × Nat) := [(⟨"FlagHoistsModel", "copy", "(II)V"⟩, 29), (⟨"FlagHoistsModel", "none", "()V"⟩, 29), (⟨"FlagHoistsModel", "isTold", "(III)Z"⟩, 29), (⟨"FlagHoistsModel", "mayBe", "(III)Z"⟩, 29), (⟨"FlagHoistsModel", "ways", "(II)I"⟩, 29), (⟨"FlagHoistsModel", "count0", "(I)I"⟩, 29), (⟨"FlagHoistsModel", "farthest", "()I"⟩, 29)]
theorem lw_r3 : ∀ q ∈ lw_privs_3, lw_okq q := List.forall_mem_cons.mpr ⟨lw_p32, List.forall_mem_cons.mpr ⟨lw_p33, List.forall_mem_cons.mpr ⟨lw_p34, List.forall_mem_cons.mpr ⟨lw_p35, List.forall_mem_cons.mpr ⟨lw_p36, List.forall_mem_cons.mpr ⟨lw_p37, List.forall_mem_cons.mpr ⟨lw_p38, fun _ h => absurd h List.not_mem_nil⟩⟩⟩⟩⟩⟩⟩
def lw_privs : List (MethodName × Nat) := lw_privs_1 ++ (lw_privs_2 ++ (lw_privs_3))
def lw_tbl : List Cond := k2_sels lw_privs ++ tables_1
theorem lw_privs_ok : ∀ q ∈ lw_privs, lw_okq q := by
  show ∀ q ∈ lw_privs_1 ++ (lw_privs_2 ++ (lw_privs_3)), lw_okq q
  exact List.forall_mem_append.mpr ⟨lw_r1, List.forall_mem_append.mpr ⟨lw_r2, lw_r3⟩⟩
end
section
/-! names: classes, fields, methods -/
def RX0 : String := "FlagHoists$Book"
def TX0 : u_T := fun k => match k with
  | 0 => ("FlagHoists$Book", "colours", "[I", true)
  | 1 => ("FlagHoists$Book", "sizes", "[I", true)
  | 2 => ("FlagHoists$Book", "codes", "[I", true)
  | 3 => ("FlagHoists$Book", "size", "I", false)
  | _ => ("FlagHoists$Book", "places", "I", false)
def tyX0 : Nat → FieldType := fun k => match k with
  | 0 => .array .int
  | 1 => .array .int
  | 2 => .array .int
  | 3 => .int
  | _ => .int
theorem nmX0 : ∀ a, a < 5 → ∀ b, b < 5 → a ≠ b → (TX0 a).2.1 ≠ (TX0 b).2.1 := by decide +kernel
theorem tyX0_ok : ∀ k, k < 5 → parseFieldDescriptor (TX0 k).2.2.1 = some (tyX0 k) := by decide +kernel
abbrev cX0_init : ByteArray := prog_2_method_1_code
def yX0_init : MethodName := ⟨RX0, "<init>", "()V"⟩
abbrev cX0_reset : ByteArray := prog_2_method_2_code
def yX0_reset : MethodName := ⟨RX0, "reset", "()V"⟩
abbrev cX0_copyFrom : ByteArray := prog_2_method_3_code
def yX0_copyFrom : MethodName := ⟨RX0, "copyFrom", "(LFlagHoists$Book;)V"⟩
abbrev cX0_packed : ByteArray := prog_2_method_4_code
def yX0_packed : MethodName := ⟨RX0, "packed", "(II)I"⟩
abbrev cX0_shiftOf : ByteArray := prog_2_method_5_code
def yX0_shiftOf : MethodName := ⟨RX0, "shiftOf", "(I)I"⟩
abbrev cX0_has : ByteArray := prog_2_method_6_code
def yX0_has : MethodName := ⟨RX0, "has", "(I)Z"⟩
abbrev cX0_hasCode : ByteArray := prog_2_method_7_code
def yX0_hasCode : MethodName := ⟨RX0, "hasCode", "(I)Z"⟩
abbrev cX0_add : ByteArray := prog_2_method_8_code
def yX0_add : MethodName := ⟨RX0, "add", "(I)V"⟩
abbrev cX0_letterOf : ByteArray := prog_2_method_9_code
def yX0_letterOf : MethodName := ⟨RX0, "letterOf", "(II)I"⟩
abbrev cX0_lengthOf : ByteArray := prog_2_method_10_code
def yX0_lengthOf : MethodName := ⟨RX0, "lengthOf", "(I)I"⟩
abbrev cX0_rankOf : ByteArray := prog_2_method_11_code
def yX0_rankOf : MethodName := ⟨RX0, "rankOf", "(I)I"⟩
abbrev cX0_firstFrom : ByteArray := prog_2_method_12_code
def yX0_firstFrom : MethodName := ⟨RX0, "firstFrom", "(I)I"⟩
abbrev cX0_mayBe : ByteArray := prog_2_method_13_code
def yX0_mayBe : MethodName := ⟨RX0, "mayBe", "(III)Z"⟩
abbrev cX0_flagMayBe : ByteArray := prog_2_method_14_code
def yX0_flagMayBe : MethodName := ⟨RX0, "flagMayBe", "(III)Z"⟩
abbrev cX0_isBlurred : ByteArray := prog_2_method_15_code
def yX0_isBlurred : MethodName := ⟨RX0, "isBlurred", "(II)Z"⟩
abbrev cX0_likenesses : ByteArray := prog_2_method_16_code
def yX0_likenesses : MethodName := ⟨RX0, "likenesses", "(II)I"⟩
def RX1 : String := "FlagHoists$Cut"
def TX1 : u_T := fun k => match k with
  | 0 => ("FlagHoists$Cut", "made", "Z", false)
  | 1 => ("FlagHoists$Cut", "hoists", "I", false)
  | 2 => ("FlagHoists$Cut", "starts", "[I", true)
  | 3 => ("FlagHoists$Cut", "rope", "LFlagHoists$Rope;", true)
  | 4 => ("FlagHoists$Cut", "row", "[I", true)
  | 5 => ("FlagHoists$Cut", "size", "I", false)
  | 6 => ("FlagHoists$Cut", "places", "I", false)
  | 7 => ("FlagHoists$Cut", "book", "LFlagHoists$Book;", true)
  | 8 => ("FlagHoists$Cut", "fewest", "[I", true)
  | _ => ("FlagHoists$Cut", "next", "[I", true)
def tyX1 : Nat → FieldType := fun k => match k with
  | 0 => .boolean
  | 1 => .int
  | 2 => .array .int
  | 3 => .object "FlagHoists$Rope"
  | 4 => .array .int
  | 5 => .int
  | 6 => .int
  | 7 => .object "FlagHoists$Book"
  | 8 => .array .int
  | _ => .array .int
theorem nmX1 : ∀ a, a < 10 → ∀ b, b < 10 → a ≠ b → (TX1 a).2.1 ≠ (TX1 b).2.1 := by decide +kernel
theorem tyX1_ok : ∀ k, k < 10 → parseFieldDescriptor (TX1 k).2.2.1 = some (tyX1 k) := by decide +kernel
abbrev cX1_init : ByteArray := prog_3_method_1_code
def yX1_init : MethodName := ⟨RX1, "<init>", "(LFlagHoists$Book;)V"⟩
abbrev cX1_make : ByteArray := prog_3_method_2_code
def yX1_make : MethodName := ⟨RX1, "make", "(LFlagHoists$Signal;I)V"⟩
abbrev cX1_findFewest : ByteArray := prog_3_method_3_code
def yX1_findFewest : MethodName := ⟨RX1, "findFewest", "(I)Z"⟩
abbrev cX1_has : ByteArray := prog_3_method_4_code
def yX1_has : MethodName := ⟨RX1, "has", "(I)Z"⟩
abbrev cX1_show : ByteArray := prog_3_method_5_code
def yX1_show : MethodName := ⟨RX1, "show", "(I)V"⟩
abbrev cX1_thingsOf : ByteArray := prog_3_method_6_code
def yX1_thingsOf : MethodName := ⟨RX1, "thingsOf", "(I)I"⟩
abbrev cX1_waysToRead : ByteArray := prog_3_method_7_code
def yX1_waysToRead : MethodName := ⟨RX1, "waysToRead", "(II)I"⟩
abbrev cX1_farthest : ByteArray := prog_3_method_8_code
def yX1_farthest : MethodName := ⟨RX1, "farthest", "()I"⟩
abbrev cX1_isReadOneWay : ByteArray := prog_3_method_9_code
def yX1_isReadOneWay : MethodName := ⟨RX1, "isReadOneWay", "(I)Z"⟩
def RX2 : String := "FlagHoists$History"
def TX2 : u_T := fun k => match k with
  | 0 => ("FlagHoists$History", "ring", "[LFlagHoists$Signal;", true)
  | 1 => ("FlagHoists$History", "oldest", "I", false)
  | _ => ("FlagHoists$History", "size", "I", false)
def tyX2 : Nat → FieldType := fun k => match k with
  | 0 => .array (.object "FlagHoists$Signal")
  | 1 => .int
  | _ => .int
theorem nmX2 : ∀ a, a < 3 → ∀ b, b < 3 → a ≠ b → (TX2 a).2.1 ≠ (TX2 b).2.1 := by decide +kernel
theorem tyX2_ok : ∀ k, k < 3 → parseFieldDescriptor (TX2 k).2.2.1 = some (tyX2 k) := by decide +kernel
abbrev cX2_init : ByteArray := prog_4_method_1_code
def yX2_init : MethodName := ⟨RX2, "<init>", "()V"⟩
abbrev cX2_remember : ByteArray := prog_4_method_2_code
def yX2_remember : MethodName := ⟨RX2, "remember", "(LFlagHoists$Signal;)V"⟩
abbrev cX2_restore : ByteArray := prog_4_method_3_code
def yX2_restore : MethodName := ⟨RX2, "restore", "(LFlagHoists$Signal;)V"⟩
def RX3 : String := "FlagHoists$Reader"
def TX3 : u_T := fun k => match k with
  | 0 => ("FlagHoists$Reader", "draft", "LFlagHoists$Book;", true)
  | 1 => ("FlagHoists$Reader", "text", "LFlagHoists$Text;", true)
  | _ => ("FlagHoists$Reader", "placesTold", "Z", false)
def tyX3 : Nat → FieldType := fun k => match k with
  | 0 => .object "FlagHoists$Book"
  | 1 => .object "FlagHoists$Text"
  | _ => .boolean
theorem nmX3 : ∀ a, a < 3 → ∀ b, b < 3 → a ≠ b → (TX3 a).2.1 ≠ (TX3 b).2.1 := by decide +kernel
theorem tyX3_ok : ∀ k, k < 3 → parseFieldDescriptor (TX3 k).2.2.1 = some (tyX3 k) := by decide +kernel
abbrev cX3_init : ByteArray := prog_5_method_1_code
def yX3_init : MethodName := ⟨RX3, "<init>", "(LFlagHoists$Text;)V"⟩
abbrev cX3_readAll : ByteArray := prog_5_method_2_code
def yX3_readAll : MethodName := ⟨RX3, "readAll", "()I"⟩
abbrev cX3_readItem : ByteArray := prog_5_method_3_code
def yX3_readItem : MethodName := ⟨RX3, "readItem", "()Z"⟩
abbrev cX3_readPlaces : ByteArray := prog_5_method_4_code
def yX3_readPlaces : MethodName := ⟨RX3, "readPlaces", "()Z"⟩
abbrev cX3_readFlag : ByteArray := prog_5_method_5_code
def yX3_readFlag : MethodName := ⟨RX3, "readFlag", "()Z"⟩
abbrev cX3_readCode : ByteArray := prog_5_method_6_code
def yX3_readCode : MethodName := ⟨RX3, "readCode", "()Z"⟩
abbrev cX3_take : ByteArray := prog_5_method_7_code
def yX3_take : MethodName := ⟨RX3, "take", "(III)I"⟩
def RX4 : String := "FlagHoists$Rope"
def TX4 : u_T := fun k => match k with
  | 0 => ("FlagHoists$Rope", "things", "[I", true)
  | 1 => ("FlagHoists$Rope", "size", "I", false)
  | 2 => ("FlagHoists$Rope", "substitutes", "I", false)
  | 3 => ("FlagHoists$Rope", "letters", "[I", true)
  | 4 => ("FlagHoists$Rope", "lettersSize", "I", false)
  | 5 => ("FlagHoists$Rope", "shown", "I", false)
  | _ => ("FlagHoists$Rope", "room", "I", false)
def tyX4 : Nat → FieldType := fun k => match k with
  | 0 => .array .int
  | 1 => .int
  | 2 => .int
  | 3 => .array .int
  | 4 => .int
  | 5 => .int
  | _ => .int
theorem nmX4 : ∀ a, a < 7 → ∀ b, b < 7 → a ≠ b → (TX4 a).2.1 ≠ (TX4 b).2.1 := by decide +kernel
theorem tyX4_ok : ∀ k, k < 7 → parseFieldDescriptor (TX4 k).2.2.1 = some (tyX4 k) := by decide +kernel
abbrev cX4_init : ByteArray := prog_6_method_1_code
def yX4_init : MethodName := ⟨RX4, "<init>", "()V"⟩
abbrev cX4_begin : ByteArray := prog_6_method_2_code
def yX4_begin : MethodName := ⟨RX4, "begin", "(I)V"⟩
abbrev cX4_addCode : ByteArray := prog_6_method_3_code
def yX4_addCode : MethodName := ⟨RX4, "addCode", "(LFlagHoists$Book;I)Z"⟩
abbrev cX4_addLetter : ByteArray := prog_6_method_4_code
def yX4_addLetter : MethodName := ⟨RX4, "addLetter", "(I)Z"⟩
abbrev cX4_isThere : ByteArray := prog_6_method_5_code
def yX4_isThere : MethodName := ⟨RX4, "isThere", "(I)Z"⟩
abbrev cX4_freeSubstitute : ByteArray := prog_6_method_6_code
def yX4_freeSubstitute : MethodName := ⟨RX4, "freeSubstitute", "(I)I"⟩
abbrev cX4_addThing : ByteArray := prog_6_method_7_code
def yX4_addThing : MethodName := ⟨RX4, "addThing", "(I)Z"⟩
def RX5 : String := "FlagHoists$Sightings"
def TX5 : u_T := fun k => match k with
  | 0 => ("FlagHoists$Sightings", "hoists", "[I", true)
  | 1 => ("FlagHoists$Sightings", "things", "[I", true)
  | _ => ("FlagHoists$Sightings", "size", "I", false)
def tyX5 : Nat → FieldType := fun k => match k with
  | 0 => .array .int
  | 1 => .array .int
  | _ => .int
theorem nmX5 : ∀ a, a < 3 → ∀ b, b < 3 → a ≠ b → (TX5 a).2.1 ≠ (TX5 b).2.1 := by decide +kernel
theorem tyX5_ok : ∀ k, k < 3 → parseFieldDescriptor (TX5 k).2.2.1 = some (tyX5 k) := by decide +kernel
abbrev cX5_init : ByteArray := prog_7_method_1_code
def yX5_init : MethodName := ⟨RX5, "<init>", "()V"⟩
abbrev cX5_note : ByteArray := prog_7_method_2_code
def yX5_note : MethodName := ⟨RX5, "note", "(II)V"⟩
abbrev cX5_allFit : ByteArray := prog_7_method_3_code
def yX5_allFit : MethodName := ⟨RX5, "allFit", "(LFlagHoists$Cut;)Z"⟩
def RX6 : String := "FlagHoists$Signal"
def TX6 : u_T := fun k => match k with
  | 0 => ("FlagHoists$Signal", "sentences", "[I", true)
  | 1 => ("FlagHoists$Signal", "size", "I", false)
  | 2 => ("FlagHoists$Signal", "places", "I", false)
  | 3 => ("FlagHoists$Signal", "understood", "I", false)
  | _ => ("FlagHoists$Signal", "times", "I", false)
def tyX6 : Nat → FieldType := fun k => match k with
  | 0 => .array .int
  | 1 => .int
  | 2 => .int
  | 3 => .int
  | _ => .int
theorem nmX6 : ∀ a, a < 5 → ∀ b, b < 5 → a ≠ b → (TX6 a).2.1 ≠ (TX6 b).2.1 := by decide +kernel
theorem tyX6_ok : ∀ k, k < 5 → parseFieldDescriptor (TX6 k).2.2.1 = some (tyX6 k) := by decide +kernel
abbrev cX6_init : ByteArray := prog_8_method_1_code
def yX6_init : MethodName := ⟨RX6, "<init>", "()V"⟩
abbrev cX6_begin : ByteArray := prog_8_method_2_code
def yX6_begin : MethodName := ⟨RX6, "begin", "(I)V"⟩
abbrev cX6_nothingSent : ByteArray := prog_8_method_3_code
def yX6_nothingSent : MethodName := ⟨RX6, "nothingSent", "()V"⟩
abbrev cX6_isUp : ByteArray := prog_8_method_4_code
def yX6_isUp : MethodName := ⟨RX6, "isUp", "()Z"⟩
abbrev cX6_hasPlace : ByteArray := prog_8_method_5_code
def yX6_hasPlace : MethodName := ⟨RX6, "hasPlace", "(I)Z"⟩
abbrev cX6_insert : ByteArray := prog_8_method_6_code
def yX6_insert : MethodName := ⟨RX6, "insert", "(II)V"⟩
abbrev cX6_remove : ByteArray := prog_8_method_7_code
def yX6_remove : MethodName := ⟨RX6, "remove", "(I)I"⟩
abbrev cX6_sendAgain : ByteArray := prog_8_method_8_code
def yX6_sendAgain : MethodName := ⟨RX6, "sendAgain", "()I"⟩
abbrev cX6_takeDown : ByteArray := prog_8_method_9_code
def yX6_takeDown : MethodName := ⟨RX6, "takeDown", "()I"⟩
abbrev cX6_copyFrom : ByteArray := prog_8_method_10_code
def yX6_copyFrom : MethodName := ⟨RX6, "copyFrom", "(LFlagHoists$Signal;)V"⟩
def RX7 : String := "FlagHoists$Text"
def TX7 : u_T := fun k => match k with
  | 0 => ("FlagHoists$Text", "letters", "[I", true)
  | 1 => ("FlagHoists$Text", "length", "I", false)
  | 2 => ("FlagHoists$Text", "token", "I", false)
  | 3 => ("FlagHoists$Text", "start", "I", false)
  | _ => ("FlagHoists$Text", "behind", "I", false)
def tyX7 : Nat → FieldType := fun k => match k with
  | 0 => .array .int
  | 1 => .int
  | 2 => .int
  | 3 => .int
  | _ => .int
theorem nmX7 : ∀ a, a < 5 → ∀ b, b < 5 → a ≠ b → (TX7 a).2.1 ≠ (TX7 b).2.1 := by decide +kernel
theorem tyX7_ok : ∀ k, k < 5 → parseFieldDescriptor (TX7 k).2.2.1 = some (tyX7 k) := by decide +kernel
abbrev cX7_init : ByteArray := prog_9_method_1_code
def yX7_init : MethodName := ⟨RX7, "<init>", "()V"⟩
abbrev cX7_rewind : ByteArray := prog_9_method_2_code
def yX7_rewind : MethodName := ⟨RX7, "rewind", "()V"⟩
abbrev cX7_step : ByteArray := prog_9_method_3_code
def yX7_step : MethodName := ⟨RX7, "step", "()V"⟩
abbrev cX7_isDigit : ByteArray := prog_9_method_4_code
def yX7_isDigit : MethodName := ⟨RX7, "isDigit", "(I)Z"⟩
def RX8 : String := "FlagHoists"
def TX8 : u_T := fun k => match k with
  | 0 => ("FlagHoists", "text", "LFlagHoists$Text;", true)
  | 1 => ("FlagHoists", "reader", "LFlagHoists$Reader;", true)
  | 2 => ("FlagHoists", "known", "LFlagHoists$Book;", true)
  | 3 => ("FlagHoists", "now", "LFlagHoists$Signal;", true)
  | 4 => ("FlagHoists", "history", "LFlagHoists$History;", true)
  | 5 => ("FlagHoists", "images", "[LFlagHoists$Signal;", true)
  | 6 => ("FlagHoists", "kept", "[Z", true)
  | 7 => ("FlagHoists", "seen", "LFlagHoists$Sightings;", true)
  | _ => ("FlagHoists", "cut", "LFlagHoists$Cut;", true)
def tyX8 : Nat → FieldType := fun k => match k with
  | 0 => .object "FlagHoists$Text"
  | 1 => .object "FlagHoists$Reader"
  | 2 => .object "FlagHoists$Book"
  | 3 => .object "FlagHoists$Signal"
  | 4 => .object "FlagHoists$History"
  | 5 => .array (.object "FlagHoists$Signal")
  | 6 => .array .boolean
  | 7 => .object "FlagHoists$Sightings"
  | _ => .object "FlagHoists$Cut"
theorem nmX8 : ∀ a, a < 9 → ∀ b, b < 9 → a ≠ b → (TX8 a).2.1 ≠ (TX8 b).2.1 := by decide +kernel
theorem tyX8_ok : ∀ k, k < 9 → parseFieldDescriptor (TX8 k).2.2.1 = some (tyX8 k) := by decide +kernel
abbrev cX8_init : ByteArray := prog_1_method_1_code
def yX8_init : MethodName := ⟨RX8, "<init>", "()V"⟩
abbrev cX8_type : ByteArray := prog_1_method_2_code
def yX8_type : MethodName := ⟨RX8, "type", "(I)I"⟩
abbrev cX8_clear : ByteArray := prog_1_method_3_code
def yX8_clear : MethodName := ⟨RX8, "clear", "()I"⟩
abbrev cX8_book : ByteArray := prog_1_method_4_code
def yX8_book : MethodName := ⟨RX8, "book", "()I"⟩
abbrev cX8_flag : ByteArray := prog_1_method_5_code
def yX8_flag : MethodName := ⟨RX8, "flag", "(II)I"⟩
abbrev cX8_code : ByteArray := prog_1_method_6_code
def yX8_code : MethodName := ⟨RX8, "code", "(II)I"⟩
abbrev cX8_sorted : ByteArray := prog_1_method_7_code
def yX8_sorted : MethodName := ⟨RX8, "sorted", "(I)I"⟩
abbrev cX8_first : ByteArray := prog_1_method_8_code
def yX8_first : MethodName := ⟨RX8, "first", "(I)I"⟩
abbrev cX8_puts : ByteArray := prog_1_method_9_code
def yX8_puts : MethodName := ⟨RX8, "puts", "(II)I"⟩
abbrev cX8_takes : ByteArray := prog_1_method_10_code
def yX8_takes : MethodName := ⟨RX8, "takes", "(I)I"⟩
abbrev cX8_places : ByteArray := prog_1_method_11_code
def yX8_places : MethodName := ⟨RX8, "places", "(I)I"⟩
abbrev cX8_sends : ByteArray := prog_1_method_12_code
def yX8_sends : MethodName := ⟨RX8, "sends", "()I"⟩
abbrev cX8_answers : ByteArray := prog_1_method_13_code
def yX8_answers : MethodName := ⟨RX8, "answers", "(I)I"⟩
abbrev cX8_undo : ByteArray := prog_1_method_14_code
def yX8_undo : MethodName := ⟨RX8, "undo", "()I"⟩
abbrev cX8_message : ByteArray := prog_1_method_15_code
def yX8_message : MethodName := ⟨RX8, "message", "(I)I"⟩
abbrev cX8_hoist : ByteArray := prog_1_method_16_code
def yX8_hoist : MethodName := ⟨RX8, "hoist", "(II)I"⟩
abbrev cX8_thing : ByteArray := prog_1_method_17_code
def yX8_thing : MethodName := ⟨RX8, "thing", "(II)I"⟩
abbrev cX8_told : ByteArray := prog_1_method_18_code
def yX8_told : MethodName := ⟨RX8, "told", "(III)I"⟩
abbrev cX8_meanings : ByteArray := prog_1_method_19_code
def yX8_meanings : MethodName := ⟨RX8, "meanings", "(II)I"⟩
abbrev cX8_sees : ByteArray := prog_1_method_20_code
def yX8_sees : MethodName := ⟨RX8, "sees", "(II)I"⟩
abbrev cX8_forget : ByteArray := prog_1_method_21_code
def yX8_forget : MethodName := ⟨RX8, "forget", "()I"⟩
abbrev cX8_unseen : ByteArray := prog_1_method_22_code
def yX8_unseen : MethodName := ⟨RX8, "unseen", "()I"⟩
abbrev cX8_keep : ByteArray := prog_1_method_23_code
def yX8_keep : MethodName := ⟨RX8, "keep", "(I)I"⟩
abbrev cX8_back : ByteArray := prog_1_method_24_code
def yX8_back : MethodName := ⟨RX8, "back", "(I)I"⟩
abbrev cX8_count : ByteArray := prog_1_method_25_code
def yX8_count : MethodName := ⟨RX8, "count", "(I)I"⟩
abbrev cX8_isDistance : ByteArray := prog_1_method_26_code
def yX8_isDistance : MethodName := ⟨RX8, "isDistance", "(I)Z"⟩
def RX9 : String := "FlagHoistsModel"
def TX9 : u_T := fun k => match k with
  | 0 => ("FlagHoistsModel", "w", "[I", true)
  | 1 => ("FlagHoistsModel", "isKept", "[Z", true)
  | 2 => ("FlagHoistsModel", "undos", "I", false)
  | 3 => ("FlagHoistsModel", "seenHoist", "[I", true)
  | 4 => ("FlagHoistsModel", "seenThings", "[I", true)
  | 5 => ("FlagHoistsModel", "seen", "I", false)
  | 6 => ("FlagHoistsModel", "text", "[I", true)
  | 7 => ("FlagHoistsModel", "letters", "I", false)
  | 8 => ("FlagHoistsModel", "colour", "[I", true)
  | 9 => ("FlagHoistsModel", "size", "[I", true)
  | 10 => ("FlagHoistsModel", "sentences", "I", false)
  | 11 => ("FlagHoistsModel", "length", "[I", true)
  | 12 => ("FlagHoistsModel", "flags", "[I", true)
  | 13 => ("FlagHoistsModel", "here", "I", false)
  | 14 => ("FlagHoistsModel", "begin", "I", false)
  | 15 => ("FlagHoistsModel", "token", "I", false)
  | 16 => ("FlagHoistsModel", "items", "I", false)
  | 17 => ("FlagHoistsModel", "newPlaces", "I", false)
  | 18 => ("FlagHoistsModel", "newSentences", "I", false)
  | 19 => ("FlagHoistsModel", "newColour", "[I", true)
  | 20 => ("FlagHoistsModel", "newSize", "[I", true)
  | 21 => ("FlagHoistsModel", "newLength", "[I", true)
  | 22 => ("FlagHoistsModel", "newFlags", "[I", true)
  | 23 => ("FlagHoistsModel", "hand", "[I", true)
  | 24 => ("FlagHoistsModel", "handMany", "I", false)
  | 25 => ("FlagHoistsModel", "thing", "[I", true)
  | 26 => ("FlagHoistsModel", "letter", "[I", true)
  | 27 => ("FlagHoistsModel", "starts", "[I", true)
  | _ => ("FlagHoistsModel", "hoists", "I", false)
def tyX9 : Nat → FieldType := fun k => match k with
  | 0 => .array .int
  | 1 => .array .boolean
  | 2 => .int
  | 3 => .array .int
  | 4 => .array .int
  | 5 => .int
  | 6 => .array .int
  | 7 => .int
  | 8 => .array .int
  | 9 => .array .int
  | 10 => .int
  | 11 => .array .int
  | 12 => .array .int
  | 13 => .int
  | 14 => .int
  | 15 => .int
  | 16 => .int
  | 17 => .int
  | 18 => .int
  | 19 => .array .int
  | 20 => .array .int
  | 21 => .array .int
  | 22 => .array .int
  | 23 => .array .int
  | 24 => .int
  | 25 => .array .int
  | 26 => .array .int
  | 27 => .array .int
  | _ => .int
theorem nmX9 : ∀ a, a < 29 → ∀ b, b < 29 → a ≠ b → (TX9 a).2.1 ≠ (TX9 b).2.1 := by decide +kernel
theorem tyX9_ok : ∀ k, k < 29 → parseFieldDescriptor (TX9 k).2.2.1 = some (tyX9 k) := by decide +kernel
abbrev cX9_init : ByteArray := prog_11_method_1_code
def yX9_init : MethodName := ⟨RX9, "<init>", "()V"⟩
abbrev cX9_in : ByteArray := prog_11_method_3_code
def yX9_in : MethodName := ⟨RX9, "in", "(JJJ)Z"⟩
abbrev cX9_firstFlags : ByteArray := prog_11_method_4_code
def yX9_firstFlags : MethodName := ⟨RX9, "firstFlags", "([I[I)V"⟩
abbrev cX9_copy : ByteArray := prog_11_method_5_code
def yX9_copy : MethodName := ⟨RX9, "copy", "(II)V"⟩
abbrev cX9_minds : ByteArray := prog_11_method_6_code
def yX9_minds : MethodName := ⟨RX9, "minds", "()V"⟩
abbrev cX9_isDigit : ByteArray := prog_11_method_7_code
def yX9_isDigit : MethodName := ⟨RX9, "isDigit", "(I)Z"⟩
abbrev cX9_take : ByteArray := prog_11_method_8_code
def yX9_take : MethodName := ⟨RX9, "take", "()V"⟩
abbrev cX9_isFlag : ByteArray := prog_11_method_9_code
def yX9_isFlag : MethodName := ⟨RX9, "isFlag", "()Z"⟩
abbrev cX9_isNumber : ByteArray := prog_11_method_10_code
def yX9_isNumber : MethodName := ⟨RX9, "isNumber", "(II)Z"⟩
abbrev cX9_readsEnd : ByteArray := prog_11_method_11_code
def yX9_readsEnd : MethodName := ⟨RX9, "readsEnd", "()Z"⟩
abbrev cX9_readsPlaces : ByteArray := prog_11_method_12_code
def yX9_readsPlaces : MethodName := ⟨RX9, "readsPlaces", "()Z"⟩
abbrev cX9_readsFlag : ByteArray := prog_11_method_13_code
def yX9_readsFlag : MethodName := ⟨RX9, "readsFlag", "()Z"⟩
abbrev cX9_isNew : ByteArray := prog_11_method_14_code
def yX9_isNew : MethodName := ⟨RX9, "isNew", "(I)Z"⟩
abbrev cX9_readsCode : ByteArray := prog_11_method_15_code
def yX9_readsCode : MethodName := ⟨RX9, "readsCode", "()Z"⟩
abbrev cX9_readsItem : ByteArray := prog_11_method_16_code
def yX9_readsItem : MethodName := ⟨RX9, "readsItem", "()Z"⟩
abbrev cX9_reads : ByteArray := prog_11_method_17_code
def yX9_reads : MethodName := ⟨RX9, "reads", "()Z"⟩
abbrev cX9_type : ByteArray := prog_11_method_18_code
def yX9_type : MethodName := ⟨RX9, "type", "(I)I"⟩
abbrev cX9_clear : ByteArray := prog_11_method_19_code
def yX9_clear : MethodName := ⟨RX9, "clear", "()I"⟩
abbrev cX9_book : ByteArray := prog_11_method_20_code
def yX9_book : MethodName := ⟨RX9, "book", "()I"⟩
abbrev cX9_isSentence : ByteArray := prog_11_method_21_code
def yX9_isSentence : MethodName := ⟨RX9, "isSentence", "(I)Z"⟩
abbrev cX9_flag : ByteArray := prog_11_method_22_code
def yX9_flag : MethodName := ⟨RX9, "flag", "(II)I"⟩
abbrev cX9_code : ByteArray := prog_11_method_23_code
def yX9_code : MethodName := ⟨RX9, "code", "(II)I"⟩
abbrev cX9_asNumber : ByteArray := prog_11_method_24_code
def yX9_asNumber : MethodName := ⟨RX9, "asNumber", "(I)I"⟩
abbrev cX9_atRank : ByteArray := prog_11_method_25_code
def yX9_atRank : MethodName := ⟨RX9, "atRank", "(I)I"⟩
abbrev cX9_sorted : ByteArray := prog_11_method_26_code
def yX9_sorted : MethodName := ⟨RX9, "sorted", "(I)I"⟩
abbrev cX9_first : ByteArray := prog_11_method_27_code
def yX9_first : MethodName := ⟨RX9, "first", "(I)I"⟩
abbrev cX9_shownFor : ByteArray := prog_11_method_28_code
def yX9_shownFor : MethodName := ⟨RX9, "shownFor", "(III)I"⟩
abbrev cX9_shows : ByteArray := prog_11_method_29_code
def yX9_shows : MethodName := ⟨RX9, "shows", "(II)I"⟩
abbrev cX9_cutBy : ByteArray := prog_11_method_30_code
def yX9_cutBy : MethodName := ⟨RX9, "cutBy", "(I)I"⟩
abbrev cX9_makes : ByteArray := prog_11_method_31_code
def yX9_makes : MethodName := ⟨RX9, "makes", "(I)V"⟩
abbrev cX9_things : ByteArray := prog_11_method_32_code
def yX9_things : MethodName := ⟨RX9, "things", "(I)I"⟩
abbrev cX9_message : ByteArray := prog_11_method_33_code
def yX9_message : MethodName := ⟨RX9, "message", "(I)I"⟩
abbrev cX9_hoist : ByteArray := prog_11_method_34_code
def yX9_hoist : MethodName := ⟨RX9, "hoist", "(II)I"⟩
abbrev cX9_thing : ByteArray := prog_11_method_35_code
def yX9_thing : MethodName := ⟨RX9, "thing", "(II)I"⟩
abbrev cX9_none : ByteArray := prog_11_method_36_code
def yX9_none : MethodName := ⟨RX9, "none", "()V"⟩
abbrev cX9_puts : ByteArray := prog_11_method_37_code
def yX9_puts : MethodName := ⟨RX9, "puts", "(II)I"⟩
abbrev cX9_takes : ByteArray := prog_11_method_38_code
def yX9_takes : MethodName := ⟨RX9, "takes", "(I)I"⟩
abbrev cX9_places : ByteArray := prog_11_method_39_code
def yX9_places : MethodName := ⟨RX9, "places", "(I)I"⟩
abbrev cX9_sends : ByteArray := prog_11_method_40_code
def yX9_sends : MethodName := ⟨RX9, "sends", "()I"⟩
abbrev cX9_answers : ByteArray := prog_11_method_41_code
def yX9_answers : MethodName := ⟨RX9, "answers", "(I)I"⟩
abbrev cX9_undo : ByteArray := prog_11_method_42_code
def yX9_undo : MethodName := ⟨RX9, "undo", "()I"⟩
abbrev cX9_mayBe : ByteArray := prog_11_method_43_code
def yX9_mayBe : MethodName := ⟨RX9, "mayBe", "(III)Z"⟩
abbrev cX9_isTold : ByteArray := prog_11_method_44_code
def yX9_isTold : MethodName := ⟨RX9, "isTold", "(III)Z"⟩
abbrev cX9_told : ByteArray := prog_11_method_45_code
def yX9_told : MethodName := ⟨RX9, "told", "(III)I"⟩
abbrev cX9_ways : ByteArray := prog_11_method_46_code
def yX9_ways : MethodName := ⟨RX9, "ways", "(II)I"⟩
abbrev cX9_meanings : ByteArray := prog_11_method_47_code
def yX9_meanings : MethodName := ⟨RX9, "meanings", "(II)I"⟩
abbrev cX9_farthest : ByteArray := prog_11_method_48_code
def yX9_farthest : MethodName := ⟨RX9, "farthest", "()I"⟩
abbrev cX9_sees : ByteArray := prog_11_method_49_code
def yX9_sees : MethodName := ⟨RX9, "sees", "(II)I"⟩
abbrev cX9_forget : ByteArray := prog_11_method_50_code
def yX9_forget : MethodName := ⟨RX9, "forget", "()I"⟩
abbrev cX9_unseen : ByteArray := prog_11_method_51_code
def yX9_unseen : MethodName := ⟨RX9, "unseen", "()I"⟩
abbrev cX9_keep : ByteArray := prog_11_method_52_code
def yX9_keep : MethodName := ⟨RX9, "keep", "(I)I"⟩
abbrev cX9_back : ByteArray := prog_11_method_53_code
def yX9_back : MethodName := ⟨RX9, "back", "(I)I"⟩
abbrev cX9_count0 : ByteArray := prog_11_method_54_code
def yX9_count0 : MethodName := ⟨RX9, "count0", "(I)I"⟩
abbrev cX9_count : ByteArray := prog_11_method_55_code
def yX9_count : MethodName := ⟨RX9, "count", "(I)I"⟩
def RJ9 : String := "java/lang/Math"
def TJ9 : u_T := fun k => match k with
  | _ => ("", "", "", false)
def tyJ9 : Nat → FieldType := fun k => match k with
  | _ => .int
theorem nmJ9 : ∀ a, a < 0 → ∀ b, b < 0 → a ≠ b → (TJ9 a).2.1 ≠ (TJ9 b).2.1 := by decide +kernel
theorem tyJ9_ok : ∀ k, k < 0 → parseFieldDescriptor (TJ9 k).2.2.1 = some (tyJ9 k) := by decide +kernel
abbrev cJ9_min_7cf53 : ByteArray := prog_12_method_69_code
def yJ9_min_7cf53 : MethodName := ⟨RJ9, "min", "(II)I"⟩
def RJ10 : String := "java/lang/System"
def TJ10 : u_T := fun k => match k with
  | _ => ("", "", "", false)
def tyJ10 : Nat → FieldType := fun k => match k with
  | _ => .int
theorem nmJ10 : ∀ a, a < 0 → ∀ b, b < 0 → a ≠ b → (TJ10 a).2.1 ≠ (TJ10 b).2.1 := by decide +kernel
theorem tyJ10_ok : ∀ k, k < 0 → parseFieldDescriptor (TJ10 k).2.2.1 = some (tyJ10 k) := by decide +kernel
def RL : String := "FlagHoistsLaw"
abbrev cL_law : ByteArray := code
def yL_law : MethodName := ⟨RL, "law", "([I)Z"⟩
abbrev vwCl : List vw_C := [(RX0, TX0, 5), (RX1, TX1, 10), (RX2, TX2, 3), (RX3, TX3, 3), (RX4, TX4, 7), (RX5, TX5, 3), (RX6, TX6, 5), (RX7, TX7, 5), (RX8, TX8, 9), (RX9, TX9, 29)]
end
section
/-! decode rows -/
theorem dX0_init_0 : decode cX0_init 0 = .ok (.aload_n 0, 1) := by decide +kernel
theorem dX0_init_1 : decode cX0_init 1 = .ok (.invokespecial 3, 3) := by decide +kernel
theorem dX0_init_4 : decode cX0_init 4 = .ok (.aload_n 0, 1) := by decide +kernel
theorem dX0_init_5 : decode cX0_init 5 = .ok (.bipush 8, 2) := by decide +kernel
theorem dX0_init_7 : decode cX0_init 7 = .ok (.newarray .int, 2) := by decide +kernel
theorem dX0_init_9 : decode cX0_init 9 = .ok (.putfield 9, 3) := by decide +kernel
theorem dX0_init_12 : decode cX0_init 12 = .ok (.aload_n 0, 1) := by decide +kernel
theorem dX0_init_13 : decode cX0_init 13 = .ok (.bipush 8, 2) := by decide +kernel
theorem dX0_init_15 : decode cX0_init 15 = .ok (.newarray .int, 2) := by decide +kernel
theorem dX0_init_17 : decode cX0_init 17 = .ok (.putfield 15, 3) := by decide +kernel
theorem dX0_init_20 : decode cX0_init 20 = .ok (.aload_n 0, 1) := by decide +kernel
theorem dX0_init_21 : decode cX0_init 21 = .ok (.bipush 10, 2) := by decide +kernel
theorem dX0_init_23 : decode cX0_init 23 = .ok (.newarray .int, 2) := by decide +kernel
theorem dX0_init_25 : decode cX0_init 25 = .ok (.putfield 18, 3) := by decide +kernel
theorem dX0_init_28 : decode cX0_init 28 = .ok (.aload_n 0, 1) := by decide +kernel
theorem dX0_init_29 : decode cX0_init 29 = .ok (.invokevirtual 21, 3) := by decide +kernel
theorem dX0_init_32 : decode cX0_init 32 = .ok (.return_, 1) := by decide +kernel
theorem dX0_reset_0 : decode cX0_reset 0 = .ok (.iconst 0, 1) := by decide +kernel
theorem dX0_reset_1 : decode cX0_reset 1 = .ok (.istore_n 1, 1) := by decide +kernel
theorem dX0_reset_2 : decode cX0_reset 2 = .ok (.iload_n 1, 1) := by decide +kernel
theorem dX0_reset_3 : decode cX0_reset 3 = .ok (.bipush 8, 2) := by decide +kernel
theorem dX0_reset_5 : decode cX0_reset 5 = .ok (.if_icmp .ge 23, 3) := by decide +kernel
theorem dX0_reset_8 : decode cX0_reset 8 = .ok (.aload_n 0, 1) := by decide +kernel
theorem dX0_reset_9 : decode cX0_reset 9 = .ok (.getfield 9, 3) := by decide +kernel
theorem dX0_reset_12 : decode cX0_reset 12 = .ok (.iload_n 1, 1) := by decide +kernel
theorem dX0_reset_13 : decode cX0_reset 13 = .ok (.iload_n 1, 1) := by decide +kernel
theorem dX0_reset_14 : decode cX0_reset 14 = .ok (.iastore, 1) := by decide +kernel
theorem dX0_reset_15 : decode cX0_reset 15 = .ok (.aload_n 0, 1) := by decide +kernel
theorem dX0_reset_16 : decode cX0_reset 16 = .ok (.getfield 15, 3) := by decide +kernel
theorem dX0_reset_19 : decode cX0_reset 19 = .ok (.iload_n 1, 1) := by decide +kernel
theorem dX0_reset_20 : decode cX0_reset 20 = .ok (.iconst 5, 1) := by decide +kernel
theorem dX0_reset_21 : decode cX0_reset 21 = .ok (.iastore, 1) := by decide +kernel
theorem dX0_reset_22 : decode cX0_reset 22 = .ok (.iinc 1 1, 3) := by decide +kernel
theorem dX0_reset_25 : decode cX0_reset 25 = .ok (.goto (-23), 3) := by decide +kernel
theorem dX0_reset_28 : decode cX0_reset 28 = .ok (.aload_n 0, 1) := by decide +kernel
theorem dX0_reset_29 : decode cX0_reset 29 = .ok (.iconst 0, 1) := by decide +kernel
theorem dX0_reset_30 : decode cX0_reset 30 = .ok (.putfield 24, 3) := by decide +kernel
theorem dX0_reset_33 : decode cX0_reset 33 = .ok (.aload_n 0, 1) := by decide +kernel
theorem dX0_reset_34 : decode cX0_reset 34 = .ok (.iconst 5, 1) := by decide +kernel
theorem dX0_reset_35 : decode cX0_reset 35 = .ok (.putfield 28, 3) := by decide +kernel
theorem dX0_reset_38 : decode cX0_reset 38 = .ok (.return_, 1) := by decide +kernel
theorem dX0_copyFrom_0 : decode cX0_copyFrom 0 = .ok (.aload_n 1, 1) := by decide +kernel
theorem dX0_copyFrom_1 : decode cX0_copyFrom 1 = .ok (.getfield 9, 3) := by decide +kernel
theorem dX0_copyFrom_4 : decode cX0_copyFrom 4 = .ok (.iconst 0, 1) := by decide +kernel
theorem dX0_copyFrom_5 : decode cX0_copyFrom 5 = .ok (.aload_n 0, 1) := by decide +kernel
theorem dX0_copyFrom_6 : decode cX0_copyFrom 6 = .ok (.getfield 9, 3) := by decide +kernel
theorem dX0_copyFrom_9 : decode cX0_copyFrom 9 = .ok (.iconst 0, 1) := by decide +kernel
theorem dX0_copyFrom_10 : decode cX0_copyFrom 10 = .ok (.bipush 8, 2) := by decide +kernel
theorem dX0_copyFrom_12 : decode cX0_copyFrom 12 = .ok (.invokestatic 31, 3) := by decide +kernel
theorem dX0_copyFrom_15 : decode cX0_copyFrom 15 = .ok (.aload_n 1, 1) := by decide +kernel
theorem dX0_copyFrom_16 : decode cX0_copyFrom 16 = .ok (.getfield 15, 3) := by decide +kernel
theorem dX0_copyFrom_19 : decode cX0_copyFrom 19 = .ok (.iconst 0, 1) := by decide +kernel
theorem dX0_copyFrom_20 : decode cX0_copyFrom 20 = .ok (.aload_n 0, 1) := by decide +kernel
theorem dX0_copyFrom_21 : decode cX0_copyFrom 21 = .ok (.getfield 15, 3) := by decide +kernel
theorem dX0_copyFrom_24 : decode cX0_copyFrom 24 = .ok (.iconst 0, 1) := by decide +kernel
theorem dX0_copyFrom_25 : decode cX0_copyFrom 25 = .ok (.bipush 8, 2) := by decide +kernel
theorem dX0_copyFrom_27 : decode cX0_copyFrom 27 = .ok (.invokestatic 31, 3) := by decide +kernel
theorem dX0_copyFrom_30 : decode cX0_copyFrom 30 = .ok (.aload_n 1, 1) := by decide +kernel
theorem dX0_copyFrom_31 : decode cX0_copyFrom 31 = .ok (.getfield 18, 3) := by decide +kernel
theorem dX0_copyFrom_34 : decode cX0_copyFrom 34 = .ok (.iconst 0, 1) := by decide +kernel
theorem dX0_copyFrom_35 : decode cX0_copyFrom 35 = .ok (.aload_n 0, 1) := by decide +kernel
theorem dX0_copyFrom_36 : decode cX0_copyFrom 36 = .ok (.getfield 18, 3) := by decide +kernel
theorem dX0_copyFrom_39 : decode cX0_copyFrom 39 = .ok (.iconst 0, 1) := by decide +kernel
theorem dX0_copyFrom_40 : decode cX0_copyFrom 40 = .ok (.bipush 10, 2) := by decide +kernel
theorem dX0_copyFrom_42 : decode cX0_copyFrom 42 = .ok (.invokestatic 31, 3) := by decide +kernel
theorem dX0_copyFrom_45 : decode cX0_copyFrom 45 = .ok (.aload_n 0, 1) := by decide +kernel
theorem dX0_copyFrom_46 : decode cX0_copyFrom 46 = .ok (.aload_n 1, 1) := by decide +kernel
theorem dX0_copyFrom_47 : decode cX0_copyFrom 47 = .ok (.getfield 24, 3) := by decide +kernel
theorem dX0_copyFrom_50 : decode cX0_copyFrom 50 = .ok (.putfield 24, 3) := by decide +kernel
theorem dX0_copyFrom_53 : decode cX0_copyFrom 53 = .ok (.aload_n 0, 1) := by decide +kernel
theorem dX0_copyFrom_54 : decode cX0_copyFrom 54 = .ok (.aload_n 1, 1) := by decide +kernel
theorem dX0_copyFrom_55 : decode cX0_copyFrom 55 = .ok (.getfield 28, 3) := by decide +kernel
theorem dX0_copyFrom_58 : decode cX0_copyFrom 58 = .ok (.putfield 28, 3) := by decide +kernel
theorem dX0_copyFrom_61 : decode cX0_copyFrom 61 = .ok (.return_, 1) := by decide +kernel
theorem dX0_packed_0 : decode cX0_packed 0 = .ok (.iload_n 0, 1) := by decide +kernel
theorem dX0_packed_1 : decode cX0_packed 1 = .ok (.iconst 1, 1) := by decide +kernel
theorem dX0_packed_2 : decode cX0_packed 2 = .ok (.iadd, 1) := by decide +kernel
theorem dX0_packed_3 : decode cX0_packed 3 = .ok (.iload_n 1, 1) := by decide +kernel
theorem dX0_packed_4 : decode cX0_packed 4 = .ok (.invokestatic 37, 3) := by decide +kernel
theorem dX0_packed_7 : decode cX0_packed 7 = .ok (.ishl, 1) := by decide +kernel
theorem dX0_packed_8 : decode cX0_packed 8 = .ok (.ireturn, 1) := by decide +kernel
theorem dX0_shiftOf_0 : decode cX0_shiftOf 0 = .ok (.iconst 4, 1) := by decide +kernel
theorem dX0_shiftOf_1 : decode cX0_shiftOf 1 = .ok (.iconst 3, 1) := by decide +kernel
theorem dX0_shiftOf_2 : decode cX0_shiftOf 2 = .ok (.iload_n 0, 1) := by decide +kernel
theorem dX0_shiftOf_3 : decode cX0_shiftOf 3 = .ok (.isub, 1) := by decide +kernel
theorem dX0_shiftOf_4 : decode cX0_shiftOf 4 = .ok (.imul, 1) := by decide +kernel
theorem dX0_shiftOf_5 : decode cX0_shiftOf 5 = .ok (.ireturn, 1) := by decide +kernel
theorem dX0_has_0 : decode cX0_has 0 = .ok (.iload_n 1, 1) := by decide +kernel
theorem dX0_has_1 : decode cX0_has 1 = .ok (.ifCond .lt 15, 3) := by decide +kernel
theorem dX0_has_4 : decode cX0_has 4 = .ok (.iload_n 1, 1) := by decide +kernel
theorem dX0_has_5 : decode cX0_has 5 = .ok (.aload_n 0, 1) := by decide +kernel
theorem dX0_has_6 : decode cX0_has 6 = .ok (.getfield 24, 3) := by decide +kernel
theorem dX0_has_9 : decode cX0_has 9 = .ok (.if_icmp .ge 7, 3) := by decide +kernel
theorem dX0_has_12 : decode cX0_has 12 = .ok (.iconst 1, 1) := by decide +kernel
theorem dX0_has_13 : decode cX0_has 13 = .ok (.goto 4, 3) := by decide +kernel
theorem dX0_has_16 : decode cX0_has 16 = .ok (.iconst 0, 1) := by decide +kernel
theorem dX0_has_17 : decode cX0_has 17 = .ok (.ireturn, 1) := by decide +kernel
theorem dX0_hasCode_0 : decode cX0_hasCode 0 = .ok (.iconst 0, 1) := by decide +kernel
theorem dX0_hasCode_1 : decode cX0_hasCode 1 = .ok (.istore_n 2, 1) := by decide +kernel
theorem dX0_hasCode_2 : decode cX0_hasCode 2 = .ok (.iload_n 2, 1) := by decide +kernel
theorem dX0_hasCode_3 : decode cX0_hasCode 3 = .ok (.aload_n 0, 1) := by decide +kernel
theorem dX0_hasCode_4 : decode cX0_hasCode 4 = .ok (.getfield 24, 3) := by decide +kernel
theorem dX0_hasCode_7 : decode cX0_hasCode 7 = .ok (.if_icmp .ge 21, 3) := by decide +kernel
theorem dX0_hasCode_10 : decode cX0_hasCode 10 = .ok (.aload_n 0, 1) := by decide +kernel
theorem dX0_hasCode_11 : decode cX0_hasCode 11 = .ok (.getfield 18, 3) := by decide +kernel
theorem dX0_hasCode_14 : decode cX0_hasCode 14 = .ok (.iload_n 2, 1) := by decide +kernel
theorem dX0_hasCode_15 : decode cX0_hasCode 15 = .ok (.iaload, 1) := by decide +kernel
theorem dX0_hasCode_16 : decode cX0_hasCode 16 = .ok (.iload_n 1, 1) := by decide +kernel
theorem dX0_hasCode_17 : decode cX0_hasCode 17 = .ok (.if_icmp .ne 5, 3) := by decide +kernel
theorem dX0_hasCode_20 : decode cX0_hasCode 20 = .ok (.iconst 1, 1) := by decide +kernel
theorem dX0_hasCode_21 : decode cX0_hasCode 21 = .ok (.ireturn, 1) := by decide +kernel
theorem dX0_hasCode_22 : decode cX0_hasCode 22 = .ok (.iinc 2 1, 3) := by decide +kernel
theorem dX0_hasCode_25 : decode cX0_hasCode 25 = .ok (.goto (-23), 3) := by decide +kernel
theorem dX0_hasCode_28 : decode cX0_hasCode 28 = .ok (.iconst 0, 1) := by decide +kernel
theorem dX0_hasCode_29 : decode cX0_hasCode 29 = .ok (.ireturn, 1) := by decide +kernel
theorem dX0_add_0 : decode cX0_add 0 = .ok (.aload_n 0, 1) := by decide +kernel
theorem dX0_add_1 : decode cX0_add 1 = .ok (.getfield 24, 3) := by decide +kernel
theorem dX0_add_4 : decode cX0_add 4 = .ok (.bipush 10, 2) := by decide +kernel
theorem dX0_add_6 : decode cX0_add 6 = .ok (.if_icmp .ge 23, 3) := by decide +kernel
theorem dX0_add_9 : decode cX0_add 9 = .ok (.aload_n 0, 1) := by decide +kernel
theorem dX0_add_10 : decode cX0_add 10 = .ok (.getfield 18, 3) := by decide +kernel
theorem dX0_add_13 : decode cX0_add 13 = .ok (.aload_n 0, 1) := by decide +kernel
theorem dX0_add_14 : decode cX0_add 14 = .ok (.getfield 24, 3) := by decide +kernel
theorem dX0_add_17 : decode cX0_add 17 = .ok (.iload_n 1, 1) := by decide +kernel
theorem dX0_add_18 : decode cX0_add 18 = .ok (.iastore, 1) := by decide +kernel
theorem dX0_add_19 : decode cX0_add 19 = .ok (.aload_n 0, 1) := by decide +kernel
theorem dX0_add_20 : decode cX0_add 20 = .ok (.dup, 1) := by decide +kernel
theorem dX0_add_21 : decode cX0_add 21 = .ok (.getfield 24, 3) := by decide +kernel
theorem dX0_add_24 : decode cX0_add 24 = .ok (.iconst 1, 1) := by decide +kernel
theorem dX0_add_25 : decode cX0_add 25 = .ok (.iadd, 1) := by decide +kernel
theorem dX0_add_26 : decode cX0_add 26 = .ok (.putfield 24, 3) := by decide +kernel
theorem dX0_add_29 : decode cX0_add 29 = .ok (.return_, 1) := by decide +kernel
theorem dX0_letterOf_0 : decode cX0_letterOf 0 = .ok (.aload_n 0, 1) := by decide +kernel
theorem dX0_letterOf_1 : decode cX0_letterOf 1 = .ok (.iload_n 1, 1) := by decide +kernel
theorem dX0_letterOf_2 : decode cX0_letterOf 2 = .ok (.invokevirtual 41, 3) := by decide +kernel
theorem dX0_letterOf_5 : decode cX0_letterOf 5 = .ok (.ifCond .ne 6, 3) := by decide +kernel
theorem dX0_letterOf_8 : decode cX0_letterOf 8 = .ok (.bipush (-9), 2) := by decide +kernel
theorem dX0_letterOf_10 : decode cX0_letterOf 10 = .ok (.ireturn, 1) := by decide +kernel
theorem dX0_letterOf_11 : decode cX0_letterOf 11 = .ok (.aload_n 0, 1) := by decide +kernel
theorem dX0_letterOf_12 : decode cX0_letterOf 12 = .ok (.getfield 18, 3) := by decide +kernel
theorem dX0_letterOf_15 : decode cX0_letterOf 15 = .ok (.iload_n 1, 1) := by decide +kernel
theorem dX0_letterOf_16 : decode cX0_letterOf 16 = .ok (.iaload, 1) := by decide +kernel
theorem dX0_letterOf_17 : decode cX0_letterOf 17 = .ok (.iload_n 2, 1) := by decide +kernel
theorem dX0_letterOf_18 : decode cX0_letterOf 18 = .ok (.invokestatic 37, 3) := by decide +kernel
theorem dX0_letterOf_21 : decode cX0_letterOf 21 = .ok (.ishr, 1) := by decide +kernel
theorem dX0_letterOf_22 : decode cX0_letterOf 22 = .ok (.bipush 15, 2) := by decide +kernel
theorem dX0_letterOf_24 : decode cX0_letterOf 24 = .ok (.iand, 1) := by decide +kernel
theorem dX0_letterOf_25 : decode cX0_letterOf 25 = .ok (.istore_n 3, 1) := by decide +kernel
theorem dX0_letterOf_26 : decode cX0_letterOf 26 = .ok (.iload_n 3, 1) := by decide +kernel
theorem dX0_letterOf_27 : decode cX0_letterOf 27 = .ok (.ifCond .ne 8, 3) := by decide +kernel
theorem dX0_letterOf_30 : decode cX0_letterOf 30 = .ok (.bipush (-9), 2) := by decide +kernel
theorem dX0_letterOf_32 : decode cX0_letterOf 32 = .ok (.goto 6, 3) := by decide +kernel
theorem dX0_letterOf_35 : decode cX0_letterOf 35 = .ok (.iload_n 3, 1) := by decide +kernel
theorem dX0_letterOf_36 : decode cX0_letterOf 36 = .ok (.iconst 1, 1) := by decide +kernel
theorem dX0_letterOf_37 : decode cX0_letterOf 37 = .ok (.isub, 1) := by decide +kernel
theorem dX0_letterOf_38 : decode cX0_letterOf 38 = .ok (.ireturn, 1) := by decide +kernel
theorem dX0_lengthOf_0 : decode cX0_lengthOf 0 = .ok (.iconst 0, 1) := by decide +kernel
theorem dX0_lengthOf_1 : decode cX0_lengthOf 1 = .ok (.istore_n 2, 1) := by decide +kernel
theorem dX0_lengthOf_2 : decode cX0_lengthOf 2 = .ok (.iload_n 2, 1) := by decide +kernel
theorem dX0_lengthOf_3 : decode cX0_lengthOf 3 = .ok (.iconst 4, 1) := by decide +kernel
theorem dX0_lengthOf_4 : decode cX0_lengthOf 4 = .ok (.if_icmp .ge 20, 3) := by decide +kernel
theorem dX0_lengthOf_7 : decode cX0_lengthOf 7 = .ok (.aload_n 0, 1) := by decide +kernel
theorem dX0_lengthOf_8 : decode cX0_lengthOf 8 = .ok (.iload_n 1, 1) := by decide +kernel
theorem dX0_lengthOf_9 : decode cX0_lengthOf 9 = .ok (.iload_n 2, 1) := by decide +kernel
theorem dX0_lengthOf_10 : decode cX0_lengthOf 10 = .ok (.invokevirtual 45, 3) := by decide +kernel
theorem dX0_lengthOf_13 : decode cX0_lengthOf 13 = .ok (.bipush (-9), 2) := by decide +kernel
theorem dX0_lengthOf_15 : decode cX0_lengthOf 15 = .ok (.if_icmp .eq 9, 3) := by decide +kernel
theorem dX0_lengthOf_18 : decode cX0_lengthOf 18 = .ok (.iinc 2 1, 3) := by decide +kernel
theorem dX0_lengthOf_21 : decode cX0_lengthOf 21 = .ok (.goto (-19), 3) := by decide +kernel
theorem dX0_lengthOf_24 : decode cX0_lengthOf 24 = .ok (.iload_n 2, 1) := by decide +kernel
theorem dX0_lengthOf_25 : decode cX0_lengthOf 25 = .ok (.ireturn, 1) := by decide +kernel
theorem dX0_rankOf_0 : decode cX0_rankOf 0 = .ok (.aload_n 0, 1) := by decide +kernel
theorem dX0_rankOf_1 : decode cX0_rankOf 1 = .ok (.iload_n 1, 1) := by decide +kernel
theorem dX0_rankOf_2 : decode cX0_rankOf 2 = .ok (.invokevirtual 41, 3) := by decide +kernel
theorem dX0_rankOf_5 : decode cX0_rankOf 5 = .ok (.ifCond .ne 6, 3) := by decide +kernel
theorem dX0_rankOf_8 : decode cX0_rankOf 8 = .ok (.bipush (-9), 2) := by decide +kernel
theorem dX0_rankOf_10 : decode cX0_rankOf 10 = .ok (.ireturn, 1) := by decide +kernel
theorem dX0_rankOf_11 : decode cX0_rankOf 11 = .ok (.iconst 0, 1) := by decide +kernel
theorem dX0_rankOf_12 : decode cX0_rankOf 12 = .ok (.istore_n 2, 1) := by decide +kernel
theorem dX0_rankOf_13 : decode cX0_rankOf 13 = .ok (.iconst 0, 1) := by decide +kernel
theorem dX0_rankOf_14 : decode cX0_rankOf 14 = .ok (.istore_n 3, 1) := by decide +kernel
theorem dX0_rankOf_15 : decode cX0_rankOf 15 = .ok (.iload_n 3, 1) := by decide +kernel
theorem dX0_rankOf_16 : decode cX0_rankOf 16 = .ok (.aload_n 0, 1) := by decide +kernel
theorem dX0_rankOf_17 : decode cX0_rankOf 17 = .ok (.getfield 24, 3) := by decide +kernel
theorem dX0_rankOf_20 : decode cX0_rankOf 20 = .ok (.if_icmp .ge 27, 3) := by decide +kernel
theorem dX0_rankOf_23 : decode cX0_rankOf 23 = .ok (.aload_n 0, 1) := by decide +kernel
theorem dX0_rankOf_24 : decode cX0_rankOf 24 = .ok (.getfield 18, 3) := by decide +kernel
theorem dX0_rankOf_27 : decode cX0_rankOf 27 = .ok (.iload_n 3, 1) := by decide +kernel
theorem dX0_rankOf_28 : decode cX0_rankOf 28 = .ok (.iaload, 1) := by decide +kernel
theorem dX0_rankOf_29 : decode cX0_rankOf 29 = .ok (.aload_n 0, 1) := by decide +kernel
theorem dX0_rankOf_30 : decode cX0_rankOf 30 = .ok (.getfield 18, 3) := by decide +kernel
theorem dX0_rankOf_33 : decode cX0_rankOf 33 = .ok (.iload_n 1, 1) := by decide +kernel
theorem dX0_rankOf_34 : decode cX0_rankOf 34 = .ok (.iaload, 1) := by decide +kernel
theorem dX0_rankOf_35 : decode cX0_rankOf 35 = .ok (.if_icmp .ge 6, 3) := by decide +kernel
theorem dX0_rankOf_38 : decode cX0_rankOf 38 = .ok (.iinc 2 1, 3) := by decide +kernel
theorem dX0_rankOf_41 : decode cX0_rankOf 41 = .ok (.iinc 3 1, 3) := by decide +kernel
theorem dX0_rankOf_44 : decode cX0_rankOf 44 = .ok (.goto (-29), 3) := by decide +kernel
theorem dX0_rankOf_47 : decode cX0_rankOf 47 = .ok (.iload_n 2, 1) := by decide +kernel
theorem dX0_rankOf_48 : decode cX0_rankOf 48 = .ok (.ireturn, 1) := by decide +kernel
theorem dX0_firstFrom_0 : decode cX0_firstFrom 0 = .ok (.bipush (-9), 2) := by decide +kernel
theorem dX0_firstFrom_2 : decode cX0_firstFrom 2 = .ok (.istore_n 2, 1) := by decide +kernel
theorem dX0_firstFrom_3 : decode cX0_firstFrom 3 = .ok (.iconst 0, 1) := by decide +kernel
theorem dX0_firstFrom_4 : decode cX0_firstFrom 4 = .ok (.istore_n 3, 1) := by decide +kernel
theorem dX0_firstFrom_5 : decode cX0_firstFrom 5 = .ok (.iload_n 3, 1) := by decide +kernel
theorem dX0_firstFrom_6 : decode cX0_firstFrom 6 = .ok (.aload_n 0, 1) := by decide +kernel
theorem dX0_firstFrom_7 : decode cX0_firstFrom 7 = .ok (.getfield 24, 3) := by decide +kernel
theorem dX0_firstFrom_10 : decode cX0_firstFrom 10 = .ok (.if_icmp .ge 54, 3) := by decide +kernel
theorem dX0_firstFrom_13 : decode cX0_firstFrom 13 = .ok (.aload_n 0, 1) := by decide +kernel
theorem dX0_firstFrom_14 : decode cX0_firstFrom 14 = .ok (.iload_n 3, 1) := by decide +kernel
theorem dX0_firstFrom_15 : decode cX0_firstFrom 15 = .ok (.iconst 0, 1) := by decide +kernel
theorem dX0_firstFrom_16 : decode cX0_firstFrom 16 = .ok (.invokevirtual 45, 3) := by decide +kernel
theorem dX0_firstFrom_19 : decode cX0_firstFrom 19 = .ok (.iload_n 1, 1) := by decide +kernel
theorem dX0_firstFrom_20 : decode cX0_firstFrom 20 = .ok (.if_icmp .lt 7, 3) := by decide +kernel
theorem dX0_firstFrom_23 : decode cX0_firstFrom 23 = .ok (.iconst 1, 1) := by decide +kernel
theorem dX0_firstFrom_24 : decode cX0_firstFrom 24 = .ok (.goto 4, 3) := by decide +kernel
theorem dX0_firstFrom_27 : decode cX0_firstFrom 27 = .ok (.iconst 0, 1) := by decide +kernel
theorem dX0_firstFrom_28 : decode cX0_firstFrom 28 = .ok (.istore 4, 2) := by decide +kernel
theorem dX0_firstFrom_30 : decode cX0_firstFrom 30 = .ok (.iload 4, 2) := by decide +kernel
theorem dX0_firstFrom_32 : decode cX0_firstFrom 32 = .ok (.ifCond .eq 26, 3) := by decide +kernel
theorem dX0_firstFrom_35 : decode cX0_firstFrom 35 = .ok (.iload_n 2, 1) := by decide +kernel
theorem dX0_firstFrom_36 : decode cX0_firstFrom 36 = .ok (.bipush (-9), 2) := by decide +kernel
theorem dX0_firstFrom_38 : decode cX0_firstFrom 38 = .ok (.if_icmp .eq 18, 3) := by decide +kernel
theorem dX0_firstFrom_41 : decode cX0_firstFrom 41 = .ok (.aload_n 0, 1) := by decide +kernel
theorem dX0_firstFrom_42 : decode cX0_firstFrom 42 = .ok (.getfield 18, 3) := by decide +kernel
theorem dX0_firstFrom_45 : decode cX0_firstFrom 45 = .ok (.iload_n 3, 1) := by decide +kernel
theorem dX0_firstFrom_46 : decode cX0_firstFrom 46 = .ok (.iaload, 1) := by decide +kernel
theorem dX0_firstFrom_47 : decode cX0_firstFrom 47 = .ok (.aload_n 0, 1) := by decide +kernel
theorem dX0_firstFrom_48 : decode cX0_firstFrom 48 = .ok (.getfield 18, 3) := by decide +kernel
theorem dX0_firstFrom_51 : decode cX0_firstFrom 51 = .ok (.iload_n 2, 1) := by decide +kernel
theorem dX0_firstFrom_52 : decode cX0_firstFrom 52 = .ok (.iaload, 1) := by decide +kernel
theorem dX0_firstFrom_53 : decode cX0_firstFrom 53 = .ok (.if_icmp .ge 5, 3) := by decide +kernel
theorem dX0_firstFrom_56 : decode cX0_firstFrom 56 = .ok (.iload_n 3, 1) := by decide +kernel
theorem dX0_firstFrom_57 : decode cX0_firstFrom 57 = .ok (.istore_n 2, 1) := by decide +kernel
theorem dX0_firstFrom_58 : decode cX0_firstFrom 58 = .ok (.iinc 3 1, 3) := by decide +kernel
theorem dX0_firstFrom_61 : decode cX0_firstFrom 61 = .ok (.goto (-56), 3) := by decide +kernel
theorem dX0_firstFrom_64 : decode cX0_firstFrom 64 = .ok (.iload_n 2, 1) := by decide +kernel
theorem dX0_firstFrom_65 : decode cX0_firstFrom 65 = .ok (.ireturn, 1) := by decide +kernel
theorem dX0_mayBe_0 : decode cX0_mayBe 0 = .ok (.iconst 0, 1) := by decide +kernel
theorem dX0_mayBe_1 : decode cX0_mayBe 1 = .ok (.istore 4, 2) := by decide +kernel
theorem dX0_mayBe_3 : decode cX0_mayBe 3 = .ok (.iload 4, 2) := by decide +kernel
theorem dX0_mayBe_5 : decode cX0_mayBe 5 = .ok (.iconst 4, 1) := by decide +kernel
theorem dX0_mayBe_6 : decode cX0_mayBe 6 = .ok (.if_icmp .ge 33, 3) := by decide +kernel
theorem dX0_mayBe_9 : decode cX0_mayBe 9 = .ok (.aload_n 0, 1) := by decide +kernel
theorem dX0_mayBe_10 : decode cX0_mayBe 10 = .ok (.aload_n 0, 1) := by decide +kernel
theorem dX0_mayBe_11 : decode cX0_mayBe 11 = .ok (.iload_n 1, 1) := by decide +kernel
theorem dX0_mayBe_12 : decode cX0_mayBe 12 = .ok (.iload 4, 2) := by decide +kernel
theorem dX0_mayBe_14 : decode cX0_mayBe 14 = .ok (.invokevirtual 45, 3) := by decide +kernel
theorem dX0_mayBe_17 : decode cX0_mayBe 17 = .ok (.aload_n 0, 1) := by decide +kernel
theorem dX0_mayBe_18 : decode cX0_mayBe 18 = .ok (.iload_n 2, 1) := by decide +kernel
theorem dX0_mayBe_19 : decode cX0_mayBe 19 = .ok (.iload 4, 2) := by decide +kernel
theorem dX0_mayBe_21 : decode cX0_mayBe 21 = .ok (.invokevirtual 45, 3) := by decide +kernel
theorem dX0_mayBe_24 : decode cX0_mayBe 24 = .ok (.iload_n 3, 1) := by decide +kernel
theorem dX0_mayBe_25 : decode cX0_mayBe 25 = .ok (.invokevirtual 49, 3) := by decide +kernel
theorem dX0_mayBe_28 : decode cX0_mayBe 28 = .ok (.ifCond .ne 5, 3) := by decide +kernel
theorem dX0_mayBe_31 : decode cX0_mayBe 31 = .ok (.iconst 0, 1) := by decide +kernel
theorem dX0_mayBe_32 : decode cX0_mayBe 32 = .ok (.ireturn, 1) := by decide +kernel
theorem dX0_mayBe_33 : decode cX0_mayBe 33 = .ok (.iinc 4 1, 3) := by decide +kernel
theorem dX0_mayBe_36 : decode cX0_mayBe 36 = .ok (.goto (-33), 3) := by decide +kernel
theorem dX0_mayBe_39 : decode cX0_mayBe 39 = .ok (.iconst 1, 1) := by decide +kernel
theorem dX0_mayBe_40 : decode cX0_mayBe 40 = .ok (.ireturn, 1) := by decide +kernel
theorem dX0_flagMayBe_0 : decode cX0_flagMayBe 0 = .ok (.iload_n 1, 1) := by decide +kernel
theorem dX0_flagMayBe_1 : decode cX0_flagMayBe 1 = .ok (.iload_n 2, 1) := by decide +kernel
theorem dX0_flagMayBe_2 : decode cX0_flagMayBe 2 = .ok (.if_icmp .ne 5, 3) := by decide +kernel
theorem dX0_flagMayBe_5 : decode cX0_flagMayBe 5 = .ok (.iconst 1, 1) := by decide +kernel
theorem dX0_flagMayBe_6 : decode cX0_flagMayBe 6 = .ok (.ireturn, 1) := by decide +kernel
theorem dX0_flagMayBe_7 : decode cX0_flagMayBe 7 = .ok (.aload_n 0, 1) := by decide +kernel
theorem dX0_flagMayBe_8 : decode cX0_flagMayBe 8 = .ok (.iload_n 1, 1) := by decide +kernel
theorem dX0_flagMayBe_9 : decode cX0_flagMayBe 9 = .ok (.iload_n 3, 1) := by decide +kernel
theorem dX0_flagMayBe_10 : decode cX0_flagMayBe 10 = .ok (.invokevirtual 53, 3) := by decide +kernel
theorem dX0_flagMayBe_13 : decode cX0_flagMayBe 13 = .ok (.ifCond .eq 31, 3) := by decide +kernel
theorem dX0_flagMayBe_16 : decode cX0_flagMayBe 16 = .ok (.aload_n 0, 1) := by decide +kernel
theorem dX0_flagMayBe_17 : decode cX0_flagMayBe 17 = .ok (.iload_n 2, 1) := by decide +kernel
theorem dX0_flagMayBe_18 : decode cX0_flagMayBe 18 = .ok (.iload_n 3, 1) := by decide +kernel
theorem dX0_flagMayBe_19 : decode cX0_flagMayBe 19 = .ok (.invokevirtual 53, 3) := by decide +kernel
theorem dX0_flagMayBe_22 : decode cX0_flagMayBe 22 = .ok (.ifCond .eq 22, 3) := by decide +kernel
theorem dX0_flagMayBe_25 : decode cX0_flagMayBe 25 = .ok (.aload_n 0, 1) := by decide +kernel
theorem dX0_flagMayBe_26 : decode cX0_flagMayBe 26 = .ok (.getfield 9, 3) := by decide +kernel
theorem dX0_flagMayBe_29 : decode cX0_flagMayBe 29 = .ok (.iload_n 1, 1) := by decide +kernel
theorem dX0_flagMayBe_30 : decode cX0_flagMayBe 30 = .ok (.iaload, 1) := by decide +kernel
theorem dX0_flagMayBe_31 : decode cX0_flagMayBe 31 = .ok (.aload_n 0, 1) := by decide +kernel
theorem dX0_flagMayBe_32 : decode cX0_flagMayBe 32 = .ok (.getfield 9, 3) := by decide +kernel
theorem dX0_flagMayBe_35 : decode cX0_flagMayBe 35 = .ok (.iload_n 2, 1) := by decide +kernel
theorem dX0_flagMayBe_36 : decode cX0_flagMayBe 36 = .ok (.iaload, 1) := by decide +kernel
theorem dX0_flagMayBe_37 : decode cX0_flagMayBe 37 = .ok (.if_icmp .ne 7, 3) := by decide +kernel
theorem dX0_flagMayBe_40 : decode cX0_flagMayBe 40 = .ok (.iconst 1, 1) := by decide +kernel
theorem dX0_flagMayBe_41 : decode cX0_flagMayBe 41 = .ok (.goto 4, 3) := by decide +kernel
theorem dX0_flagMayBe_44 : decode cX0_flagMayBe 44 = .ok (.iconst 0, 1) := by decide +kernel
theorem dX0_flagMayBe_45 : decode cX0_flagMayBe 45 = .ok (.ireturn, 1) := by decide +kernel
theorem dX0_isBlurred_0 : decode cX0_isBlurred 0 = .ok (.iload_n 1, 1) := by decide +kernel
theorem dX0_isBlurred_1 : decode cX0_isBlurred 1 = .ok (.ifCond .lt 23, 3) := by decide +kernel
theorem dX0_isBlurred_4 : decode cX0_isBlurred 4 = .ok (.iload_n 1, 1) := by decide +kernel
theorem dX0_isBlurred_5 : decode cX0_isBlurred 5 = .ok (.bipush 8, 2) := by decide +kernel
theorem dX0_isBlurred_7 : decode cX0_isBlurred 7 = .ok (.if_icmp .ge 17, 3) := by decide +kernel
theorem dX0_isBlurred_10 : decode cX0_isBlurred 10 = .ok (.aload_n 0, 1) := by decide +kernel
theorem dX0_isBlurred_11 : decode cX0_isBlurred 11 = .ok (.getfield 15, 3) := by decide +kernel
theorem dX0_isBlurred_14 : decode cX0_isBlurred 14 = .ok (.iload_n 1, 1) := by decide +kernel
theorem dX0_isBlurred_15 : decode cX0_isBlurred 15 = .ok (.iaload, 1) := by decide +kernel
theorem dX0_isBlurred_16 : decode cX0_isBlurred 16 = .ok (.iload_n 2, 1) := by decide +kernel
theorem dX0_isBlurred_17 : decode cX0_isBlurred 17 = .ok (.if_icmp .ge 7, 3) := by decide +kernel
theorem dX0_isBlurred_20 : decode cX0_isBlurred 20 = .ok (.iconst 1, 1) := by decide +kernel
theorem dX0_isBlurred_21 : decode cX0_isBlurred 21 = .ok (.goto 4, 3) := by decide +kernel
theorem dX0_isBlurred_24 : decode cX0_isBlurred 24 = .ok (.iconst 0, 1) := by decide +kernel
theorem dX0_isBlurred_25 : decode cX0_isBlurred 25 = .ok (.ireturn, 1) := by decide +kernel
theorem dX0_likenesses_0 : decode cX0_likenesses 0 = .ok (.iconst 0, 1) := by decide +kernel
theorem dX0_likenesses_1 : decode cX0_likenesses 1 = .ok (.istore_n 3, 1) := by decide +kernel
theorem dX0_likenesses_2 : decode cX0_likenesses 2 = .ok (.iconst 0, 1) := by decide +kernel
theorem dX0_likenesses_3 : decode cX0_likenesses 3 = .ok (.istore 4, 2) := by decide +kernel
theorem dX0_likenesses_5 : decode cX0_likenesses 5 = .ok (.iload 4, 2) := by decide +kernel
theorem dX0_likenesses_7 : decode cX0_likenesses 7 = .ok (.aload_n 0, 1) := by decide +kernel
theorem dX0_likenesses_8 : decode cX0_likenesses 8 = .ok (.getfield 24, 3) := by decide +kernel
theorem dX0_likenesses_11 : decode cX0_likenesses 11 = .ok (.if_icmp .ge 23, 3) := by decide +kernel
theorem dX0_likenesses_14 : decode cX0_likenesses 14 = .ok (.aload_n 0, 1) := by decide +kernel
theorem dX0_likenesses_15 : decode cX0_likenesses 15 = .ok (.iload_n 1, 1) := by decide +kernel
theorem dX0_likenesses_16 : decode cX0_likenesses 16 = .ok (.iload 4, 2) := by decide +kernel
theorem dX0_likenesses_18 : decode cX0_likenesses 18 = .ok (.iload_n 2, 1) := by decide +kernel
theorem dX0_likenesses_19 : decode cX0_likenesses 19 = .ok (.invokevirtual 57, 3) := by decide +kernel
theorem dX0_likenesses_22 : decode cX0_likenesses 22 = .ok (.ifCond .eq 6, 3) := by decide +kernel
theorem dX0_likenesses_25 : decode cX0_likenesses 25 = .ok (.iinc 3 1, 3) := by decide +kernel
theorem dX0_likenesses_28 : decode cX0_likenesses 28 = .ok (.iinc 4 1, 3) := by decide +kernel
theorem dX0_likenesses_31 : decode cX0_likenesses 31 = .ok (.goto (-26), 3) := by decide +kernel
theorem dX0_likenesses_34 : decode cX0_likenesses 34 = .ok (.iload_n 3, 1) := by decide +kernel
theorem dX0_likenesses_35 : decode cX0_likenesses 35 = .ok (.ireturn, 1) := by decide +kernel
theorem dX1_init_0 : decode cX1_init 0 = .ok (.aload_n 0, 1) := by decide +kernel
theorem dX1_init_1 : decode cX1_init 1 = .ok (.invokespecial 3, 3) := by decide +kernel
theorem dX1_init_4 : decode cX1_init 4 = .ok (.aload_n 0, 1) := by decide +kernel
theorem dX1_init_5 : decode cX1_init 5 = .ok (.bipush 9, 2) := by decide +kernel
theorem dX1_init_7 : decode cX1_init 7 = .ok (.newarray .int, 2) := by decide +kernel
theorem dX1_init_9 : decode cX1_init 9 = .ok (.putfield 9, 3) := by decide +kernel
theorem dX1_init_12 : decode cX1_init 12 = .ok (.aload_n 0, 1) := by decide +kernel
theorem dX1_init_13 : decode cX1_init 13 = .ok (.new 15, 3) := by decide +kernel
theorem dX1_init_16 : decode cX1_init 16 = .ok (.dup, 1) := by decide +kernel
theorem dX1_init_17 : decode cX1_init 17 = .ok (.invokespecial 17, 3) := by decide +kernel
theorem dX1_init_20 : decode cX1_init 20 = .ok (.putfield 18, 3) := by decide +kernel
theorem dX1_init_23 : decode cX1_init 23 = .ok (.aload_n 0, 1) := by decide +kernel
theorem dX1_init_24 : decode cX1_init 24 = .ok (.bipush 8, 2) := by decide +kernel
theorem dX1_init_26 : decode cX1_init 26 = .ok (.newarray .int, 2) := by decide +kernel
theorem dX1_init_28 : decode cX1_init 28 = .ok (.putfield 22, 3) := by decide +kernel
theorem dX1_init_31 : decode cX1_init 31 = .ok (.aload_n 0, 1) := by decide +kernel
theorem dX1_init_32 : decode cX1_init 32 = .ok (.bipush 9, 2) := by decide +kernel
theorem dX1_init_34 : decode cX1_init 34 = .ok (.newarray .int, 2) := by decide +kernel
theorem dX1_init_36 : decode cX1_init 36 = .ok (.putfield 25, 3) := by decide +kernel
theorem dX1_init_39 : decode cX1_init 39 = .ok (.aload_n 0, 1) := by decide +kernel
theorem dX1_init_40 : decode cX1_init 40 = .ok (.bipush 9, 2) := by decide +kernel
theorem dX1_init_42 : decode cX1_init 42 = .ok (.newarray .int, 2) := by decide +kernel
theorem dX1_init_44 : decode cX1_init 44 = .ok (.putfield 28, 3) := by decide +kernel
theorem dX1_init_47 : decode cX1_init 47 = .ok (.aload_n 0, 1) := by decide +kernel
theorem dX1_init_48 : decode cX1_init 48 = .ok (.aload_n 1, 1) := by decide +kernel
theorem dX1_init_49 : decode cX1_init 49 = .ok (.putfield 31, 3) := by decide +kernel
theorem dX1_init_52 : decode cX1_init 52 = .ok (.return_, 1) := by decide +kernel
theorem dX1_make_0 : decode cX1_make 0 = .ok (.aload_n 0, 1) := by decide +kernel
theorem dX1_make_1 : decode cX1_make 1 = .ok (.aload_n 1, 1) := by decide +kernel
theorem dX1_make_2 : decode cX1_make 2 = .ok (.getfield 35, 3) := by decide +kernel
theorem dX1_make_5 : decode cX1_make 5 = .ok (.putfield 41, 3) := by decide +kernel
theorem dX1_make_8 : decode cX1_make 8 = .ok (.aload_n 0, 1) := by decide +kernel
theorem dX1_make_9 : decode cX1_make 9 = .ok (.iconst 0, 1) := by decide +kernel
theorem dX1_make_10 : decode cX1_make 10 = .ok (.putfield 42, 3) := by decide +kernel
theorem dX1_make_13 : decode cX1_make 13 = .ok (.iconst 0, 1) := by decide +kernel
theorem dX1_make_14 : decode cX1_make 14 = .ok (.istore_n 3, 1) := by decide +kernel
theorem dX1_make_15 : decode cX1_make 15 = .ok (.iload_n 3, 1) := by decide +kernel
theorem dX1_make_16 : decode cX1_make 16 = .ok (.aload_n 1, 1) := by decide +kernel
theorem dX1_make_17 : decode cX1_make 17 = .ok (.getfield 45, 3) := by decide +kernel
theorem dX1_make_20 : decode cX1_make 20 = .ok (.if_icmp .ge 39, 3) := by decide +kernel
theorem dX1_make_23 : decode cX1_make 23 = .ok (.iload_n 3, 1) := by decide +kernel
theorem dX1_make_24 : decode cX1_make 24 = .ok (.iload_n 2, 1) := by decide +kernel
theorem dX1_make_25 : decode cX1_make 25 = .ok (.if_icmp .eq 28, 3) := by decide +kernel
theorem dX1_make_28 : decode cX1_make 28 = .ok (.aload_n 0, 1) := by decide +kernel
theorem dX1_make_29 : decode cX1_make 29 = .ok (.getfield 22, 3) := by decide +kernel
theorem dX1_make_32 : decode cX1_make 32 = .ok (.aload_n 0, 1) := by decide +kernel
theorem dX1_make_33 : decode cX1_make 33 = .ok (.getfield 42, 3) := by decide +kernel
theorem dX1_make_36 : decode cX1_make 36 = .ok (.aload_n 1, 1) := by decide +kernel
theorem dX1_make_37 : decode cX1_make 37 = .ok (.getfield 46, 3) := by decide +kernel
theorem dX1_make_40 : decode cX1_make 40 = .ok (.iload_n 3, 1) := by decide +kernel
theorem dX1_make_41 : decode cX1_make 41 = .ok (.iaload, 1) := by decide +kernel
theorem dX1_make_42 : decode cX1_make 42 = .ok (.iastore, 1) := by decide +kernel
theorem dX1_make_43 : decode cX1_make 43 = .ok (.aload_n 0, 1) := by decide +kernel
theorem dX1_make_44 : decode cX1_make 44 = .ok (.dup, 1) := by decide +kernel
theorem dX1_make_45 : decode cX1_make 45 = .ok (.getfield 42, 3) := by decide +kernel
theorem dX1_make_48 : decode cX1_make 48 = .ok (.iconst 1, 1) := by decide +kernel
theorem dX1_make_49 : decode cX1_make 49 = .ok (.iadd, 1) := by decide +kernel
theorem dX1_make_50 : decode cX1_make 50 = .ok (.putfield 42, 3) := by decide +kernel
theorem dX1_make_53 : decode cX1_make 53 = .ok (.iinc 3 1, 3) := by decide +kernel
theorem dX1_make_56 : decode cX1_make 56 = .ok (.goto (-41), 3) := by decide +kernel
theorem dX1_make_59 : decode cX1_make 59 = .ok (.aload_n 0, 1) := by decide +kernel
theorem dX1_make_60 : decode cX1_make 60 = .ok (.getfield 25, 3) := by decide +kernel
theorem dX1_make_63 : decode cX1_make 63 = .ok (.aload_n 0, 1) := by decide +kernel
theorem dX1_make_64 : decode cX1_make 64 = .ok (.getfield 42, 3) := by decide +kernel
theorem dX1_make_67 : decode cX1_make 67 = .ok (.iconst 0, 1) := by decide +kernel
theorem dX1_make_68 : decode cX1_make 68 = .ok (.iastore, 1) := by decide +kernel
theorem dX1_make_69 : decode cX1_make 69 = .ok (.aload_n 0, 1) := by decide +kernel
theorem dX1_make_70 : decode cX1_make 70 = .ok (.iconst 1, 1) := by decide +kernel
theorem dX1_make_71 : decode cX1_make 71 = .ok (.putfield 49, 3) := by decide +kernel
theorem dX1_make_74 : decode cX1_make 74 = .ok (.aload_n 0, 1) := by decide +kernel
theorem dX1_make_75 : decode cX1_make 75 = .ok (.getfield 42, 3) := by decide +kernel
theorem dX1_make_78 : decode cX1_make 78 = .ok (.iconst 1, 1) := by decide +kernel
theorem dX1_make_79 : decode cX1_make 79 = .ok (.isub, 1) := by decide +kernel
theorem dX1_make_80 : decode cX1_make 80 = .ok (.istore_n 3, 1) := by decide +kernel
theorem dX1_make_81 : decode cX1_make 81 = .ok (.iload_n 3, 1) := by decide +kernel
theorem dX1_make_82 : decode cX1_make 82 = .ok (.ifCond .lt 25, 3) := by decide +kernel
theorem dX1_make_85 : decode cX1_make 85 = .ok (.aload_n 0, 1) := by decide +kernel
theorem dX1_make_86 : decode cX1_make 86 = .ok (.getfield 49, 3) := by decide +kernel
theorem dX1_make_89 : decode cX1_make 89 = .ok (.ifCond .eq 18, 3) := by decide +kernel
theorem dX1_make_92 : decode cX1_make 92 = .ok (.aload_n 0, 1) := by decide +kernel
theorem dX1_make_93 : decode cX1_make 93 = .ok (.aload_n 0, 1) := by decide +kernel
theorem dX1_make_94 : decode cX1_make 94 = .ok (.iload_n 3, 1) := by decide +kernel
theorem dX1_make_95 : decode cX1_make 95 = .ok (.invokevirtual 53, 3) := by decide +kernel
theorem dX1_make_98 : decode cX1_make 98 = .ok (.putfield 49, 3) := by decide +kernel
theorem dX1_make_101 : decode cX1_make 101 = .ok (.iinc 3 (-1), 3) := by decide +kernel
theorem dX1_make_104 : decode cX1_make 104 = .ok (.goto (-23), 3) := by decide +kernel
theorem dX1_make_107 : decode cX1_make 107 = .ok (.aload_n 0, 1) := by decide +kernel
theorem dX1_make_108 : decode cX1_make 108 = .ok (.iconst 0, 1) := by decide +kernel
theorem dX1_make_109 : decode cX1_make 109 = .ok (.putfield 57, 3) := by decide +kernel
theorem dX1_make_112 : decode cX1_make 112 = .ok (.aload_n 0, 1) := by decide +kernel
theorem dX1_make_113 : decode cX1_make 113 = .ok (.getfield 9, 3) := by decide +kernel
theorem dX1_make_116 : decode cX1_make 116 = .ok (.iconst 0, 1) := by decide +kernel
theorem dX1_make_117 : decode cX1_make 117 = .ok (.iconst 0, 1) := by decide +kernel
theorem dX1_make_118 : decode cX1_make 118 = .ok (.iastore, 1) := by decide +kernel
theorem dX1_make_119 : decode cX1_make 119 = .ok (.aload_n 0, 1) := by decide +kernel
theorem dX1_make_120 : decode cX1_make 120 = .ok (.getfield 49, 3) := by decide +kernel
theorem dX1_make_123 : decode cX1_make 123 = .ok (.ifCond .eq 66, 3) := by decide +kernel
theorem dX1_make_126 : decode cX1_make 126 = .ok (.aload_n 0, 1) := by decide +kernel
theorem dX1_make_127 : decode cX1_make 127 = .ok (.getfield 57, 3) := by decide +kernel
theorem dX1_make_130 : decode cX1_make 130 = .ok (.bipush 8, 2) := by decide +kernel
theorem dX1_make_132 : decode cX1_make 132 = .ok (.if_icmp .ge 57, 3) := by decide +kernel
theorem dX1_make_135 : decode cX1_make 135 = .ok (.aload_n 0, 1) := by decide +kernel
theorem dX1_make_136 : decode cX1_make 136 = .ok (.getfield 9, 3) := by decide +kernel
theorem dX1_make_139 : decode cX1_make 139 = .ok (.aload_n 0, 1) := by decide +kernel
theorem dX1_make_140 : decode cX1_make 140 = .ok (.getfield 57, 3) := by decide +kernel
theorem dX1_make_143 : decode cX1_make 143 = .ok (.iaload, 1) := by decide +kernel
theorem dX1_make_144 : decode cX1_make 144 = .ok (.aload_n 0, 1) := by decide +kernel
theorem dX1_make_145 : decode cX1_make 145 = .ok (.getfield 42, 3) := by decide +kernel
theorem dX1_make_148 : decode cX1_make 148 = .ok (.if_icmp .ge 41, 3) := by decide +kernel
theorem dX1_make_151 : decode cX1_make 151 = .ok (.aload_n 0, 1) := by decide +kernel
theorem dX1_make_152 : decode cX1_make 152 = .ok (.getfield 9, 3) := by decide +kernel
theorem dX1_make_155 : decode cX1_make 155 = .ok (.aload_n 0, 1) := by decide +kernel
theorem dX1_make_156 : decode cX1_make 156 = .ok (.getfield 57, 3) := by decide +kernel
theorem dX1_make_159 : decode cX1_make 159 = .ok (.iconst 1, 1) := by decide +kernel
theorem dX1_make_160 : decode cX1_make 160 = .ok (.iadd, 1) := by decide +kernel
theorem dX1_make_161 : decode cX1_make 161 = .ok (.aload_n 0, 1) := by decide +kernel
theorem dX1_make_162 : decode cX1_make 162 = .ok (.getfield 28, 3) := by decide +kernel
theorem dX1_make_165 : decode cX1_make 165 = .ok (.aload_n 0, 1) := by decide +kernel
theorem dX1_make_166 : decode cX1_make 166 = .ok (.getfield 9, 3) := by decide +kernel
theorem dX1_make_169 : decode cX1_make 169 = .ok (.aload_n 0, 1) := by decide +kernel
theorem dX1_make_170 : decode cX1_make 170 = .ok (.getfield 57, 3) := by decide +kernel
theorem dX1_make_173 : decode cX1_make 173 = .ok (.iaload, 1) := by decide +kernel
theorem dX1_make_174 : decode cX1_make 174 = .ok (.iaload, 1) := by decide +kernel
theorem dX1_make_175 : decode cX1_make 175 = .ok (.iastore, 1) := by decide +kernel
theorem dX1_make_176 : decode cX1_make 176 = .ok (.aload_n 0, 1) := by decide +kernel
theorem dX1_make_177 : decode cX1_make 177 = .ok (.dup, 1) := by decide +kernel
theorem dX1_make_178 : decode cX1_make 178 = .ok (.getfield 57, 3) := by decide +kernel
theorem dX1_make_181 : decode cX1_make 181 = .ok (.iconst 1, 1) := by decide +kernel
theorem dX1_make_182 : decode cX1_make 182 = .ok (.iadd, 1) := by decide +kernel
theorem dX1_make_183 : decode cX1_make 183 = .ok (.putfield 57, 3) := by decide +kernel
theorem dX1_make_186 : decode cX1_make 186 = .ok (.goto (-67), 3) := by decide +kernel
theorem dX1_make_189 : decode cX1_make 189 = .ok (.return_, 1) := by decide +kernel
theorem dX1_findFewest_0 : decode cX1_findFewest 0 = .ok (.iconst 0, 1) := by decide +kernel
theorem dX1_findFewest_1 : decode cX1_findFewest 1 = .ok (.istore_n 2, 1) := by decide +kernel
theorem dX1_findFewest_2 : decode cX1_findFewest 2 = .ok (.aload_n 0, 1) := by decide +kernel
theorem dX1_findFewest_3 : decode cX1_findFewest 3 = .ok (.getfield 18, 3) := by decide +kernel
theorem dX1_findFewest_6 : decode cX1_findFewest 6 = .ok (.aload_n 0, 1) := by decide +kernel
theorem dX1_findFewest_7 : decode cX1_findFewest 7 = .ok (.getfield 41, 3) := by decide +kernel
theorem dX1_findFewest_10 : decode cX1_findFewest 10 = .ok (.invokevirtual 60, 3) := by decide +kernel
theorem dX1_findFewest_13 : decode cX1_findFewest 13 = .ok (.iload_n 1, 1) := by decide +kernel
theorem dX1_findFewest_14 : decode cX1_findFewest 14 = .ok (.iconst 1, 1) := by decide +kernel
theorem dX1_findFewest_15 : decode cX1_findFewest 15 = .ok (.iadd, 1) := by decide +kernel
theorem dX1_findFewest_16 : decode cX1_findFewest 16 = .ok (.istore_n 3, 1) := by decide +kernel
theorem dX1_findFewest_17 : decode cX1_findFewest 17 = .ok (.iload_n 3, 1) := by decide +kernel
theorem dX1_findFewest_18 : decode cX1_findFewest 18 = .ok (.aload_n 0, 1) := by decide +kernel
theorem dX1_findFewest_19 : decode cX1_findFewest 19 = .ok (.getfield 42, 3) := by decide +kernel
theorem dX1_findFewest_22 : decode cX1_findFewest 22 = .ok (.if_icmp .gt 73, 3) := by decide +kernel
theorem dX1_findFewest_25 : decode cX1_findFewest 25 = .ok (.aload_n 0, 1) := by decide +kernel
theorem dX1_findFewest_26 : decode cX1_findFewest 26 = .ok (.getfield 18, 3) := by decide +kernel
theorem dX1_findFewest_29 : decode cX1_findFewest 29 = .ok (.aload_n 0, 1) := by decide +kernel
theorem dX1_findFewest_30 : decode cX1_findFewest 30 = .ok (.getfield 31, 3) := by decide +kernel
theorem dX1_findFewest_33 : decode cX1_findFewest 33 = .ok (.aload_n 0, 1) := by decide +kernel
theorem dX1_findFewest_34 : decode cX1_findFewest 34 = .ok (.getfield 22, 3) := by decide +kernel
theorem dX1_findFewest_37 : decode cX1_findFewest 37 = .ok (.iload_n 3, 1) := by decide +kernel
theorem dX1_findFewest_38 : decode cX1_findFewest 38 = .ok (.iconst 1, 1) := by decide +kernel
theorem dX1_findFewest_39 : decode cX1_findFewest 39 = .ok (.isub, 1) := by decide +kernel
theorem dX1_findFewest_40 : decode cX1_findFewest 40 = .ok (.iaload, 1) := by decide +kernel
theorem dX1_findFewest_41 : decode cX1_findFewest 41 = .ok (.invokevirtual 64, 3) := by decide +kernel
theorem dX1_findFewest_44 : decode cX1_findFewest 44 = .ok (.ifCond .eq 51, 3) := by decide +kernel
theorem dX1_findFewest_47 : decode cX1_findFewest 47 = .ok (.aload_n 0, 1) := by decide +kernel
theorem dX1_findFewest_48 : decode cX1_findFewest 48 = .ok (.getfield 25, 3) := by decide +kernel
theorem dX1_findFewest_51 : decode cX1_findFewest 51 = .ok (.iload_n 3, 1) := by decide +kernel
theorem dX1_findFewest_52 : decode cX1_findFewest 52 = .ok (.iaload, 1) := by decide +kernel
theorem dX1_findFewest_53 : decode cX1_findFewest 53 = .ok (.iconst 1, 1) := by decide +kernel
theorem dX1_findFewest_54 : decode cX1_findFewest 54 = .ok (.iadd, 1) := by decide +kernel
theorem dX1_findFewest_55 : decode cX1_findFewest 55 = .ok (.istore 4, 2) := by decide +kernel
theorem dX1_findFewest_57 : decode cX1_findFewest 57 = .ok (.iload_n 2, 1) := by decide +kernel
theorem dX1_findFewest_58 : decode cX1_findFewest 58 = .ok (.ifCond .eq 14, 3) := by decide +kernel
theorem dX1_findFewest_61 : decode cX1_findFewest 61 = .ok (.iload 4, 2) := by decide +kernel
theorem dX1_findFewest_63 : decode cX1_findFewest 63 = .ok (.aload_n 0, 1) := by decide +kernel
theorem dX1_findFewest_64 : decode cX1_findFewest 64 = .ok (.getfield 25, 3) := by decide +kernel
theorem dX1_findFewest_67 : decode cX1_findFewest 67 = .ok (.iload_n 1, 1) := by decide +kernel
theorem dX1_findFewest_68 : decode cX1_findFewest 68 = .ok (.iaload, 1) := by decide +kernel
theorem dX1_findFewest_69 : decode cX1_findFewest 69 = .ok (.if_icmp .gt 20, 3) := by decide +kernel
theorem dX1_findFewest_72 : decode cX1_findFewest 72 = .ok (.aload_n 0, 1) := by decide +kernel
theorem dX1_findFewest_73 : decode cX1_findFewest 73 = .ok (.getfield 25, 3) := by decide +kernel
theorem dX1_findFewest_76 : decode cX1_findFewest 76 = .ok (.iload_n 1, 1) := by decide +kernel
theorem dX1_findFewest_77 : decode cX1_findFewest 77 = .ok (.iload 4, 2) := by decide +kernel
theorem dX1_findFewest_79 : decode cX1_findFewest 79 = .ok (.iastore, 1) := by decide +kernel
theorem dX1_findFewest_80 : decode cX1_findFewest 80 = .ok (.aload_n 0, 1) := by decide +kernel
theorem dX1_findFewest_81 : decode cX1_findFewest 81 = .ok (.getfield 28, 3) := by decide +kernel
theorem dX1_findFewest_84 : decode cX1_findFewest 84 = .ok (.iload_n 1, 1) := by decide +kernel
theorem dX1_findFewest_85 : decode cX1_findFewest 85 = .ok (.iload_n 3, 1) := by decide +kernel
theorem dX1_findFewest_86 : decode cX1_findFewest 86 = .ok (.iastore, 1) := by decide +kernel
theorem dX1_findFewest_87 : decode cX1_findFewest 87 = .ok (.iconst 1, 1) := by decide +kernel
theorem dX1_findFewest_88 : decode cX1_findFewest 88 = .ok (.istore_n 2, 1) := by decide +kernel
theorem dX1_findFewest_89 : decode cX1_findFewest 89 = .ok (.iinc 3 1, 3) := by decide +kernel
theorem dX1_findFewest_92 : decode cX1_findFewest 92 = .ok (.goto (-75), 3) := by decide +kernel
theorem dX1_findFewest_95 : decode cX1_findFewest 95 = .ok (.iload_n 2, 1) := by decide +kernel
theorem dX1_findFewest_96 : decode cX1_findFewest 96 = .ok (.ireturn, 1) := by decide +kernel
theorem dX1_has_0 : decode cX1_has 0 = .ok (.aload_n 0, 1) := by decide +kernel
theorem dX1_has_1 : decode cX1_has 1 = .ok (.getfield 49, 3) := by decide +kernel
theorem dX1_has_4 : decode cX1_has 4 = .ok (.ifCond .eq 19, 3) := by decide +kernel
theorem dX1_has_7 : decode cX1_has 7 = .ok (.iload_n 1, 1) := by decide +kernel
theorem dX1_has_8 : decode cX1_has 8 = .ok (.ifCond .lt 15, 3) := by decide +kernel
theorem dX1_has_11 : decode cX1_has 11 = .ok (.iload_n 1, 1) := by decide +kernel
theorem dX1_has_12 : decode cX1_has 12 = .ok (.aload_n 0, 1) := by decide +kernel
theorem dX1_has_13 : decode cX1_has 13 = .ok (.getfield 57, 3) := by decide +kernel
theorem dX1_has_16 : decode cX1_has 16 = .ok (.if_icmp .ge 7, 3) := by decide +kernel
theorem dX1_has_19 : decode cX1_has 19 = .ok (.iconst 1, 1) := by decide +kernel
theorem dX1_has_20 : decode cX1_has 20 = .ok (.goto 4, 3) := by decide +kernel
theorem dX1_has_23 : decode cX1_has 23 = .ok (.iconst 0, 1) := by decide +kernel
theorem dX1_has_24 : decode cX1_has 24 = .ok (.ireturn, 1) := by decide +kernel
theorem dX1_show_0 : decode cX1_show 0 = .ok (.aload_n 0, 1) := by decide +kernel
theorem dX1_show_1 : decode cX1_show 1 = .ok (.getfield 18, 3) := by decide +kernel
theorem dX1_show_4 : decode cX1_show 4 = .ok (.aload_n 0, 1) := by decide +kernel
theorem dX1_show_5 : decode cX1_show 5 = .ok (.getfield 41, 3) := by decide +kernel
theorem dX1_show_8 : decode cX1_show 8 = .ok (.invokevirtual 60, 3) := by decide +kernel
theorem dX1_show_11 : decode cX1_show 11 = .ok (.aload_n 0, 1) := by decide +kernel
theorem dX1_show_12 : decode cX1_show 12 = .ok (.iload_n 1, 1) := by decide +kernel
theorem dX1_show_13 : decode cX1_show 13 = .ok (.invokevirtual 68, 3) := by decide +kernel
theorem dX1_show_16 : decode cX1_show 16 = .ok (.ifCond .eq 46, 3) := by decide +kernel
theorem dX1_show_19 : decode cX1_show 19 = .ok (.aload_n 0, 1) := by decide +kernel
theorem dX1_show_20 : decode cX1_show 20 = .ok (.getfield 9, 3) := by decide +kernel
theorem dX1_show_23 : decode cX1_show 23 = .ok (.iload_n 1, 1) := by decide +kernel
theorem dX1_show_24 : decode cX1_show 24 = .ok (.iaload, 1) := by decide +kernel
theorem dX1_show_25 : decode cX1_show 25 = .ok (.istore_n 2, 1) := by decide +kernel
theorem dX1_show_26 : decode cX1_show 26 = .ok (.iload_n 2, 1) := by decide +kernel
theorem dX1_show_27 : decode cX1_show 27 = .ok (.aload_n 0, 1) := by decide +kernel
theorem dX1_show_28 : decode cX1_show 28 = .ok (.getfield 9, 3) := by decide +kernel
theorem dX1_show_31 : decode cX1_show 31 = .ok (.iload_n 1, 1) := by decide +kernel
theorem dX1_show_32 : decode cX1_show 32 = .ok (.iconst 1, 1) := by decide +kernel
theorem dX1_show_33 : decode cX1_show 33 = .ok (.iadd, 1) := by decide +kernel
theorem dX1_show_34 : decode cX1_show 34 = .ok (.iaload, 1) := by decide +kernel
theorem dX1_show_35 : decode cX1_show 35 = .ok (.if_icmp .ge 27, 3) := by decide +kernel
theorem dX1_show_38 : decode cX1_show 38 = .ok (.aload_n 0, 1) := by decide +kernel
theorem dX1_show_39 : decode cX1_show 39 = .ok (.getfield 18, 3) := by decide +kernel
theorem dX1_show_42 : decode cX1_show 42 = .ok (.aload_n 0, 1) := by decide +kernel
theorem dX1_show_43 : decode cX1_show 43 = .ok (.getfield 31, 3) := by decide +kernel
theorem dX1_show_46 : decode cX1_show 46 = .ok (.aload_n 0, 1) := by decide +kernel
theorem dX1_show_47 : decode cX1_show 47 = .ok (.getfield 22, 3) := by decide +kernel
theorem dX1_show_50 : decode cX1_show 50 = .ok (.iload_n 2, 1) := by decide +kernel
theorem dX1_show_51 : decode cX1_show 51 = .ok (.iaload, 1) := by decide +kernel
theorem dX1_show_52 : decode cX1_show 52 = .ok (.invokevirtual 64, 3) := by decide +kernel
theorem dX1_show_55 : decode cX1_show 55 = .ok (.pop, 1) := by decide +kernel
theorem dX1_show_56 : decode cX1_show 56 = .ok (.iinc 2 1, 3) := by decide +kernel
theorem dX1_show_59 : decode cX1_show 59 = .ok (.goto (-33), 3) := by decide +kernel
theorem dX1_show_62 : decode cX1_show 62 = .ok (.return_, 1) := by decide +kernel
theorem dX1_thingsOf_0 : decode cX1_thingsOf 0 = .ok (.aload_n 0, 1) := by decide +kernel
theorem dX1_thingsOf_1 : decode cX1_thingsOf 1 = .ok (.iload_n 1, 1) := by decide +kernel
theorem dX1_thingsOf_2 : decode cX1_thingsOf 2 = .ok (.invokevirtual 71, 3) := by decide +kernel
theorem dX1_thingsOf_5 : decode cX1_thingsOf 5 = .ok (.aload_n 0, 1) := by decide +kernel
theorem dX1_thingsOf_6 : decode cX1_thingsOf 6 = .ok (.getfield 18, 3) := by decide +kernel
theorem dX1_thingsOf_9 : decode cX1_thingsOf 9 = .ok (.getfield 74, 3) := by decide +kernel
theorem dX1_thingsOf_12 : decode cX1_thingsOf 12 = .ok (.ireturn, 1) := by decide +kernel
theorem dX1_waysToRead_0 : decode cX1_waysToRead 0 = .ok (.iconst 1, 1) := by decide +kernel
theorem dX1_waysToRead_1 : decode cX1_waysToRead 1 = .ok (.istore_n 3, 1) := by decide +kernel
theorem dX1_waysToRead_2 : decode cX1_waysToRead 2 = .ok (.aload_n 0, 1) := by decide +kernel
theorem dX1_waysToRead_3 : decode cX1_waysToRead 3 = .ok (.iload_n 1, 1) := by decide +kernel
theorem dX1_waysToRead_4 : decode cX1_waysToRead 4 = .ok (.invokevirtual 68, 3) := by decide +kernel
theorem dX1_waysToRead_7 : decode cX1_waysToRead 7 = .ok (.ifCond .eq 48, 3) := by decide +kernel
theorem dX1_waysToRead_10 : decode cX1_waysToRead 10 = .ok (.aload_n 0, 1) := by decide +kernel
theorem dX1_waysToRead_11 : decode cX1_waysToRead 11 = .ok (.getfield 9, 3) := by decide +kernel
theorem dX1_waysToRead_14 : decode cX1_waysToRead 14 = .ok (.iload_n 1, 1) := by decide +kernel
theorem dX1_waysToRead_15 : decode cX1_waysToRead 15 = .ok (.iaload, 1) := by decide +kernel
theorem dX1_waysToRead_16 : decode cX1_waysToRead 16 = .ok (.istore 4, 2) := by decide +kernel
theorem dX1_waysToRead_18 : decode cX1_waysToRead 18 = .ok (.iload 4, 2) := by decide +kernel
theorem dX1_waysToRead_20 : decode cX1_waysToRead 20 = .ok (.aload_n 0, 1) := by decide +kernel
theorem dX1_waysToRead_21 : decode cX1_waysToRead 21 = .ok (.getfield 9, 3) := by decide +kernel
theorem dX1_waysToRead_24 : decode cX1_waysToRead 24 = .ok (.iload_n 1, 1) := by decide +kernel
theorem dX1_waysToRead_25 : decode cX1_waysToRead 25 = .ok (.iconst 1, 1) := by decide +kernel
theorem dX1_waysToRead_26 : decode cX1_waysToRead 26 = .ok (.iadd, 1) := by decide +kernel
theorem dX1_waysToRead_27 : decode cX1_waysToRead 27 = .ok (.iaload, 1) := by decide +kernel
theorem dX1_waysToRead_28 : decode cX1_waysToRead 28 = .ok (.if_icmp .ge 27, 3) := by decide +kernel
theorem dX1_waysToRead_31 : decode cX1_waysToRead 31 = .ok (.iload_n 3, 1) := by decide +kernel
theorem dX1_waysToRead_32 : decode cX1_waysToRead 32 = .ok (.aload_n 0, 1) := by decide +kernel
theorem dX1_waysToRead_33 : decode cX1_waysToRead 33 = .ok (.getfield 31, 3) := by decide +kernel
theorem dX1_waysToRead_36 : decode cX1_waysToRead 36 = .ok (.aload_n 0, 1) := by decide +kernel
theorem dX1_waysToRead_37 : decode cX1_waysToRead 37 = .ok (.getfield 22, 3) := by decide +kernel
theorem dX1_waysToRead_40 : decode cX1_waysToRead 40 = .ok (.iload 4, 2) := by decide +kernel
theorem dX1_waysToRead_42 : decode cX1_waysToRead 42 = .ok (.iaload, 1) := by decide +kernel
theorem dX1_waysToRead_43 : decode cX1_waysToRead 43 = .ok (.iload_n 2, 1) := by decide +kernel
theorem dX1_waysToRead_44 : decode cX1_waysToRead 44 = .ok (.invokevirtual 75, 3) := by decide +kernel
theorem dX1_waysToRead_47 : decode cX1_waysToRead 47 = .ok (.imul, 1) := by decide +kernel
theorem dX1_waysToRead_48 : decode cX1_waysToRead 48 = .ok (.istore_n 3, 1) := by decide +kernel
theorem dX1_waysToRead_49 : decode cX1_waysToRead 49 = .ok (.iinc 4 1, 3) := by decide +kernel
theorem dX1_waysToRead_52 : decode cX1_waysToRead 52 = .ok (.goto (-34), 3) := by decide +kernel
theorem dX1_waysToRead_55 : decode cX1_waysToRead 55 = .ok (.iload_n 3, 1) := by decide +kernel
theorem dX1_waysToRead_56 : decode cX1_waysToRead 56 = .ok (.ireturn, 1) := by decide +kernel
theorem dX1_farthest_0 : decode cX1_farthest 0 = .ok (.bipush 9, 2) := by decide +kernel
theorem dX1_farthest_2 : decode cX1_farthest 2 = .ok (.istore_n 1, 1) := by decide +kernel
theorem dX1_farthest_3 : decode cX1_farthest 3 = .ok (.iload_n 1, 1) := by decide +kernel
theorem dX1_farthest_4 : decode cX1_farthest 4 = .ok (.iconst 1, 1) := by decide +kernel
theorem dX1_farthest_5 : decode cX1_farthest 5 = .ok (.if_icmp .lt 19, 3) := by decide +kernel
theorem dX1_farthest_8 : decode cX1_farthest 8 = .ok (.aload_n 0, 1) := by decide +kernel
theorem dX1_farthest_9 : decode cX1_farthest 9 = .ok (.iload_n 1, 1) := by decide +kernel
theorem dX1_farthest_10 : decode cX1_farthest 10 = .ok (.invokevirtual 81, 3) := by decide +kernel
theorem dX1_farthest_13 : decode cX1_farthest 13 = .ok (.ifCond .eq 5, 3) := by decide +kernel
theorem dX1_farthest_16 : decode cX1_farthest 16 = .ok (.iload_n 1, 1) := by decide +kernel
theorem dX1_farthest_17 : decode cX1_farthest 17 = .ok (.ireturn, 1) := by decide +kernel
theorem dX1_farthest_18 : decode cX1_farthest 18 = .ok (.iinc 1 (-1), 3) := by decide +kernel
theorem dX1_farthest_21 : decode cX1_farthest 21 = .ok (.goto (-18), 3) := by decide +kernel
theorem dX1_farthest_24 : decode cX1_farthest 24 = .ok (.iconst 0, 1) := by decide +kernel
theorem dX1_farthest_25 : decode cX1_farthest 25 = .ok (.ireturn, 1) := by decide +kernel
theorem dX1_isReadOneWay_0 : decode cX1_isReadOneWay 0 = .ok (.iconst 0, 1) := by decide +kernel
theorem dX1_isReadOneWay_1 : decode cX1_isReadOneWay 1 = .ok (.istore_n 2, 1) := by decide +kernel
theorem dX1_isReadOneWay_2 : decode cX1_isReadOneWay 2 = .ok (.iload_n 2, 1) := by decide +kernel
theorem dX1_isReadOneWay_3 : decode cX1_isReadOneWay 3 = .ok (.aload_n 0, 1) := by decide +kernel
theorem dX1_isReadOneWay_4 : decode cX1_isReadOneWay 4 = .ok (.getfield 42, 3) := by decide +kernel
theorem dX1_isReadOneWay_7 : decode cX1_isReadOneWay 7 = .ok (.if_icmp .ge 29, 3) := by decide +kernel
theorem dX1_isReadOneWay_10 : decode cX1_isReadOneWay 10 = .ok (.aload_n 0, 1) := by decide +kernel
theorem dX1_isReadOneWay_11 : decode cX1_isReadOneWay 11 = .ok (.getfield 31, 3) := by decide +kernel
theorem dX1_isReadOneWay_14 : decode cX1_isReadOneWay 14 = .ok (.aload_n 0, 1) := by decide +kernel
theorem dX1_isReadOneWay_15 : decode cX1_isReadOneWay 15 = .ok (.getfield 22, 3) := by decide +kernel
theorem dX1_isReadOneWay_18 : decode cX1_isReadOneWay 18 = .ok (.iload_n 2, 1) := by decide +kernel
theorem dX1_isReadOneWay_19 : decode cX1_isReadOneWay 19 = .ok (.iaload, 1) := by decide +kernel
theorem dX1_isReadOneWay_20 : decode cX1_isReadOneWay 20 = .ok (.iload_n 1, 1) := by decide +kernel
theorem dX1_isReadOneWay_21 : decode cX1_isReadOneWay 21 = .ok (.invokevirtual 75, 3) := by decide +kernel
theorem dX1_isReadOneWay_24 : decode cX1_isReadOneWay 24 = .ok (.iconst 1, 1) := by decide +kernel
theorem dX1_isReadOneWay_25 : decode cX1_isReadOneWay 25 = .ok (.if_icmp .eq 5, 3) := by decide +kernel
theorem dX1_isReadOneWay_28 : decode cX1_isReadOneWay 28 = .ok (.iconst 0, 1) := by decide +kernel
theorem dX1_isReadOneWay_29 : decode cX1_isReadOneWay 29 = .ok (.ireturn, 1) := by decide +kernel
theorem dX1_isReadOneWay_30 : decode cX1_isReadOneWay 30 = .ok (.iinc 2 1, 3) := by decide +kernel
theorem dX1_isReadOneWay_33 : decode cX1_isReadOneWay 33 = .ok (.goto (-31), 3) := by decide +kernel
theorem dX1_isReadOneWay_36 : decode cX1_isReadOneWay 36 = .ok (.iconst 1, 1) := by decide +kernel
theorem dX1_isReadOneWay_37 : decode cX1_isReadOneWay 37 = .ok (.ireturn, 1) := by decide +kernel
theorem dX2_init_0 : decode cX2_init 0 = .ok (.aload_n 0, 1) := by decide +kernel
theorem dX2_init_1 : decode cX2_init 1 = .ok (.invokespecial 3, 3) := by decide +kernel
theorem dX2_init_4 : decode cX2_init 4 = .ok (.aload_n 0, 1) := by decide +kernel
theorem dX2_init_5 : decode cX2_init 5 = .ok (.bipush 10, 2) := by decide +kernel
theorem dX2_init_7 : decode cX2_init 7 = .ok (.anewarray 9, 3) := by decide +kernel
theorem dX2_init_10 : decode cX2_init 10 = .ok (.putfield 11, 3) := by decide +kernel
theorem dX2_init_13 : decode cX2_init 13 = .ok (.iconst 0, 1) := by decide +kernel
theorem dX2_init_14 : decode cX2_init 14 = .ok (.istore_n 1, 1) := by decide +kernel
theorem dX2_init_15 : decode cX2_init 15 = .ok (.iload_n 1, 1) := by decide +kernel
theorem dX2_init_16 : decode cX2_init 16 = .ok (.bipush 10, 2) := by decide +kernel
theorem dX2_init_18 : decode cX2_init 18 = .ok (.if_icmp .ge 22, 3) := by decide +kernel
theorem dX2_init_21 : decode cX2_init 21 = .ok (.aload_n 0, 1) := by decide +kernel
theorem dX2_init_22 : decode cX2_init 22 = .ok (.getfield 11, 3) := by decide +kernel
theorem dX2_init_25 : decode cX2_init 25 = .ok (.iload_n 1, 1) := by decide +kernel
theorem dX2_init_26 : decode cX2_init 26 = .ok (.new 9, 3) := by decide +kernel
theorem dX2_init_29 : decode cX2_init 29 = .ok (.dup, 1) := by decide +kernel
theorem dX2_init_30 : decode cX2_init 30 = .ok (.invokespecial 17, 3) := by decide +kernel
theorem dX2_init_33 : decode cX2_init 33 = .ok (.aastore, 1) := by decide +kernel
theorem dX2_init_34 : decode cX2_init 34 = .ok (.iinc 1 1, 3) := by decide +kernel
theorem dX2_init_37 : decode cX2_init 37 = .ok (.goto (-22), 3) := by decide +kernel
theorem dX2_init_40 : decode cX2_init 40 = .ok (.return_, 1) := by decide +kernel
theorem dX2_remember_0 : decode cX2_remember 0 = .ok (.aload_n 0, 1) := by decide +kernel
theorem dX2_remember_1 : decode cX2_remember 1 = .ok (.getfield 11, 3) := by decide +kernel
theorem dX2_remember_4 : decode cX2_remember 4 = .ok (.aload_n 0, 1) := by decide +kernel
theorem dX2_remember_5 : decode cX2_remember 5 = .ok (.getfield 18, 3) := by decide +kernel
theorem dX2_remember_8 : decode cX2_remember 8 = .ok (.aload_n 0, 1) := by decide +kernel
theorem dX2_remember_9 : decode cX2_remember 9 = .ok (.getfield 22, 3) := by decide +kernel
theorem dX2_remember_12 : decode cX2_remember 12 = .ok (.iadd, 1) := by decide +kernel
theorem dX2_remember_13 : decode cX2_remember 13 = .ok (.bipush 10, 2) := by decide +kernel
theorem dX2_remember_15 : decode cX2_remember 15 = .ok (.irem, 1) := by decide +kernel
theorem dX2_remember_16 : decode cX2_remember 16 = .ok (.aaload, 1) := by decide +kernel
theorem dX2_remember_17 : decode cX2_remember 17 = .ok (.aload_n 1, 1) := by decide +kernel
theorem dX2_remember_18 : decode cX2_remember 18 = .ok (.invokevirtual 25, 3) := by decide +kernel
theorem dX2_remember_21 : decode cX2_remember 21 = .ok (.aload_n 0, 1) := by decide +kernel
theorem dX2_remember_22 : decode cX2_remember 22 = .ok (.getfield 22, 3) := by decide +kernel
theorem dX2_remember_25 : decode cX2_remember 25 = .ok (.bipush 10, 2) := by decide +kernel
theorem dX2_remember_27 : decode cX2_remember 27 = .ok (.if_icmp .ge 16, 3) := by decide +kernel
theorem dX2_remember_30 : decode cX2_remember 30 = .ok (.aload_n 0, 1) := by decide +kernel
theorem dX2_remember_31 : decode cX2_remember 31 = .ok (.dup, 1) := by decide +kernel
theorem dX2_remember_32 : decode cX2_remember 32 = .ok (.getfield 22, 3) := by decide +kernel
theorem dX2_remember_35 : decode cX2_remember 35 = .ok (.iconst 1, 1) := by decide +kernel
theorem dX2_remember_36 : decode cX2_remember 36 = .ok (.iadd, 1) := by decide +kernel
theorem dX2_remember_37 : decode cX2_remember 37 = .ok (.putfield 22, 3) := by decide +kernel
theorem dX2_remember_40 : decode cX2_remember 40 = .ok (.goto 16, 3) := by decide +kernel
theorem dX2_remember_43 : decode cX2_remember 43 = .ok (.aload_n 0, 1) := by decide +kernel
theorem dX2_remember_44 : decode cX2_remember 44 = .ok (.aload_n 0, 1) := by decide +kernel
theorem dX2_remember_45 : decode cX2_remember 45 = .ok (.getfield 18, 3) := by decide +kernel
theorem dX2_remember_48 : decode cX2_remember 48 = .ok (.iconst 1, 1) := by decide +kernel
theorem dX2_remember_49 : decode cX2_remember 49 = .ok (.iadd, 1) := by decide +kernel
theorem dX2_remember_50 : decode cX2_remember 50 = .ok (.bipush 10, 2) := by decide +kernel
theorem dX2_remember_52 : decode cX2_remember 52 = .ok (.irem, 1) := by decide +kernel
theorem dX2_remember_53 : decode cX2_remember 53 = .ok (.putfield 18, 3) := by decide +kernel
theorem dX2_remember_56 : decode cX2_remember 56 = .ok (.return_, 1) := by decide +kernel
theorem dX2_restore_0 : decode cX2_restore 0 = .ok (.aload_n 0, 1) := by decide +kernel
theorem dX2_restore_1 : decode cX2_restore 1 = .ok (.getfield 22, 3) := by decide +kernel
theorem dX2_restore_4 : decode cX2_restore 4 = .ok (.ifCond .le 34, 3) := by decide +kernel
theorem dX2_restore_7 : decode cX2_restore 7 = .ok (.aload_n 0, 1) := by decide +kernel
theorem dX2_restore_8 : decode cX2_restore 8 = .ok (.dup, 1) := by decide +kernel
theorem dX2_restore_9 : decode cX2_restore 9 = .ok (.getfield 22, 3) := by decide +kernel
theorem dX2_restore_12 : decode cX2_restore 12 = .ok (.iconst 1, 1) := by decide +kernel
theorem dX2_restore_13 : decode cX2_restore 13 = .ok (.isub, 1) := by decide +kernel
theorem dX2_restore_14 : decode cX2_restore 14 = .ok (.putfield 22, 3) := by decide +kernel
theorem dX2_restore_17 : decode cX2_restore 17 = .ok (.aload_n 1, 1) := by decide +kernel
theorem dX2_restore_18 : decode cX2_restore 18 = .ok (.aload_n 0, 1) := by decide +kernel
theorem dX2_restore_19 : decode cX2_restore 19 = .ok (.getfield 11, 3) := by decide +kernel
theorem dX2_restore_22 : decode cX2_restore 22 = .ok (.aload_n 0, 1) := by decide +kernel
theorem dX2_restore_23 : decode cX2_restore 23 = .ok (.getfield 18, 3) := by decide +kernel
theorem dX2_restore_26 : decode cX2_restore 26 = .ok (.aload_n 0, 1) := by decide +kernel
theorem dX2_restore_27 : decode cX2_restore 27 = .ok (.getfield 22, 3) := by decide +kernel
theorem dX2_restore_30 : decode cX2_restore 30 = .ok (.iadd, 1) := by decide +kernel
theorem dX2_restore_31 : decode cX2_restore 31 = .ok (.bipush 10, 2) := by decide +kernel
theorem dX2_restore_33 : decode cX2_restore 33 = .ok (.irem, 1) := by decide +kernel
theorem dX2_restore_34 : decode cX2_restore 34 = .ok (.aaload, 1) := by decide +kernel
theorem dX2_restore_35 : decode cX2_restore 35 = .ok (.invokevirtual 25, 3) := by decide +kernel
theorem dX2_restore_38 : decode cX2_restore 38 = .ok (.return_, 1) := by decide +kernel
theorem dX3_init_0 : decode cX3_init 0 = .ok (.aload_n 0, 1) := by decide +kernel
theorem dX3_init_1 : decode cX3_init 1 = .ok (.invokespecial 3, 3) := by decide +kernel
theorem dX3_init_4 : decode cX3_init 4 = .ok (.aload_n 0, 1) := by decide +kernel
theorem dX3_init_5 : decode cX3_init 5 = .ok (.aload_n 1, 1) := by decide +kernel
theorem dX3_init_6 : decode cX3_init 6 = .ok (.putfield 9, 3) := by decide +kernel
theorem dX3_init_9 : decode cX3_init 9 = .ok (.aload_n 0, 1) := by decide +kernel
theorem dX3_init_10 : decode cX3_init 10 = .ok (.new 15, 3) := by decide +kernel
theorem dX3_init_13 : decode cX3_init 13 = .ok (.dup, 1) := by decide +kernel
theorem dX3_init_14 : decode cX3_init 14 = .ok (.invokespecial 17, 3) := by decide +kernel
theorem dX3_init_17 : decode cX3_init 17 = .ok (.putfield 18, 3) := by decide +kernel
theorem dX3_init_20 : decode cX3_init 20 = .ok (.return_, 1) := by decide +kernel
theorem dX3_readAll_0 : decode cX3_readAll 0 = .ok (.aload_n 0, 1) := by decide +kernel
theorem dX3_readAll_1 : decode cX3_readAll 1 = .ok (.getfield 18, 3) := by decide +kernel
theorem dX3_readAll_4 : decode cX3_readAll 4 = .ok (.invokevirtual 22, 3) := by decide +kernel
theorem dX3_readAll_7 : decode cX3_readAll 7 = .ok (.aload_n 0, 1) := by decide +kernel
theorem dX3_readAll_8 : decode cX3_readAll 8 = .ok (.iconst 0, 1) := by decide +kernel
theorem dX3_readAll_9 : decode cX3_readAll 9 = .ok (.putfield 25, 3) := by decide +kernel
theorem dX3_readAll_12 : decode cX3_readAll 12 = .ok (.aload_n 0, 1) := by decide +kernel
theorem dX3_readAll_13 : decode cX3_readAll 13 = .ok (.getfield 9, 3) := by decide +kernel
theorem dX3_readAll_16 : decode cX3_readAll 16 = .ok (.invokevirtual 29, 3) := by decide +kernel
theorem dX3_readAll_19 : decode cX3_readAll 19 = .ok (.iconst 0, 1) := by decide +kernel
theorem dX3_readAll_20 : decode cX3_readAll 20 = .ok (.istore_n 1, 1) := by decide +kernel
theorem dX3_readAll_21 : decode cX3_readAll 21 = .ok (.iload_n 1, 1) := by decide +kernel
theorem dX3_readAll_22 : decode cX3_readAll 22 = .ok (.bipush 120, 2) := by decide +kernel
theorem dX3_readAll_24 : decode cX3_readAll 24 = .ok (.if_icmp .ge 38, 3) := by decide +kernel
theorem dX3_readAll_27 : decode cX3_readAll 27 = .ok (.aload_n 0, 1) := by decide +kernel
theorem dX3_readAll_28 : decode cX3_readAll 28 = .ok (.getfield 9, 3) := by decide +kernel
theorem dX3_readAll_31 : decode cX3_readAll 31 = .ok (.getfield 34, 3) := by decide +kernel
theorem dX3_readAll_34 : decode cX3_readAll 34 = .ok (.iconst (-1), 1) := by decide +kernel
theorem dX3_readAll_35 : decode cX3_readAll 35 = .ok (.if_icmp .eq 27, 3) := by decide +kernel
theorem dX3_readAll_38 : decode cX3_readAll 38 = .ok (.aload_n 0, 1) := by decide +kernel
theorem dX3_readAll_39 : decode cX3_readAll 39 = .ok (.invokevirtual 38, 3) := by decide +kernel
theorem dX3_readAll_42 : decode cX3_readAll 42 = .ok (.ifCond .ne 14, 3) := by decide +kernel
theorem dX3_readAll_45 : decode cX3_readAll 45 = .ok (.bipush (-10), 2) := by decide +kernel
theorem dX3_readAll_47 : decode cX3_readAll 47 = .ok (.aload_n 0, 1) := by decide +kernel
theorem dX3_readAll_48 : decode cX3_readAll 48 = .ok (.getfield 9, 3) := by decide +kernel
theorem dX3_readAll_51 : decode cX3_readAll 51 = .ok (.getfield 42, 3) := by decide +kernel
theorem dX3_readAll_54 : decode cX3_readAll 54 = .ok (.isub, 1) := by decide +kernel
theorem dX3_readAll_55 : decode cX3_readAll 55 = .ok (.ireturn, 1) := by decide +kernel
theorem dX3_readAll_56 : decode cX3_readAll 56 = .ok (.iinc 1 1, 3) := by decide +kernel
theorem dX3_readAll_59 : decode cX3_readAll 59 = .ok (.goto (-38), 3) := by decide +kernel
theorem dX3_readAll_62 : decode cX3_readAll 62 = .ok (.iload_n 1, 1) := by decide +kernel
theorem dX3_readAll_63 : decode cX3_readAll 63 = .ok (.ireturn, 1) := by decide +kernel
theorem dX3_readItem_0 : decode cX3_readItem 0 = .ok (.aload_n 0, 1) := by decide +kernel
theorem dX3_readItem_1 : decode cX3_readItem 1 = .ok (.getfield 9, 3) := by decide +kernel
theorem dX3_readItem_4 : decode cX3_readItem 4 = .ok (.getfield 34, 3) := by decide +kernel
theorem dX3_readItem_7 : decode cX3_readItem 7 = .ok (.lookupswitch 57 #[(102, 41), (107, 49), (112, 33)], 33) := by decide +kernel
theorem dX3_readItem_40 : decode cX3_readItem 40 = .ok (.aload_n 0, 1) := by decide +kernel
theorem dX3_readItem_41 : decode cX3_readItem 41 = .ok (.invokevirtual 45, 3) := by decide +kernel
theorem dX3_readItem_44 : decode cX3_readItem 44 = .ok (.istore_n 1, 1) := by decide +kernel
theorem dX3_readItem_45 : decode cX3_readItem 45 = .ok (.goto 21, 3) := by decide +kernel
theorem dX3_readItem_48 : decode cX3_readItem 48 = .ok (.aload_n 0, 1) := by decide +kernel
theorem dX3_readItem_49 : decode cX3_readItem 49 = .ok (.invokevirtual 48, 3) := by decide +kernel
theorem dX3_readItem_52 : decode cX3_readItem 52 = .ok (.istore_n 1, 1) := by decide +kernel
theorem dX3_readItem_53 : decode cX3_readItem 53 = .ok (.goto 13, 3) := by decide +kernel
theorem dX3_readItem_56 : decode cX3_readItem 56 = .ok (.aload_n 0, 1) := by decide +kernel
theorem dX3_readItem_57 : decode cX3_readItem 57 = .ok (.invokevirtual 51, 3) := by decide +kernel
theorem dX3_readItem_60 : decode cX3_readItem 60 = .ok (.istore_n 1, 1) := by decide +kernel
theorem dX3_readItem_61 : decode cX3_readItem 61 = .ok (.goto 5, 3) := by decide +kernel
theorem dX3_readItem_64 : decode cX3_readItem 64 = .ok (.iconst 0, 1) := by decide +kernel
theorem dX3_readItem_65 : decode cX3_readItem 65 = .ok (.istore_n 1, 1) := by decide +kernel
theorem dX3_readItem_66 : decode cX3_readItem 66 = .ok (.iload_n 1, 1) := by decide +kernel
theorem dX3_readItem_67 : decode cX3_readItem 67 = .ok (.ifCond .eq 20, 3) := by decide +kernel
theorem dX3_readItem_70 : decode cX3_readItem 70 = .ok (.aload_n 0, 1) := by decide +kernel
theorem dX3_readItem_71 : decode cX3_readItem 71 = .ok (.bipush 59, 2) := by decide +kernel
theorem dX3_readItem_73 : decode cX3_readItem 73 = .ok (.iconst 0, 1) := by decide +kernel
theorem dX3_readItem_74 : decode cX3_readItem 74 = .ok (.iconst 0, 1) := by decide +kernel
theorem dX3_readItem_75 : decode cX3_readItem 75 = .ok (.invokevirtual 54, 3) := by decide +kernel
theorem dX3_readItem_78 : decode cX3_readItem 78 = .ok (.bipush (-9), 2) := by decide +kernel
theorem dX3_readItem_80 : decode cX3_readItem 80 = .ok (.if_icmp .eq 7, 3) := by decide +kernel
theorem dX3_readItem_83 : decode cX3_readItem 83 = .ok (.iconst 1, 1) := by decide +kernel
theorem dX3_readItem_84 : decode cX3_readItem 84 = .ok (.goto 4, 3) := by decide +kernel
theorem dX3_readItem_87 : decode cX3_readItem 87 = .ok (.iconst 0, 1) := by decide +kernel
theorem dX3_readItem_88 : decode cX3_readItem 88 = .ok (.ireturn, 1) := by decide +kernel
theorem dX3_readPlaces_0 : decode cX3_readPlaces 0 = .ok (.aload_n 0, 1) := by decide +kernel
theorem dX3_readPlaces_1 : decode cX3_readPlaces 1 = .ok (.getfield 25, 3) := by decide +kernel
theorem dX3_readPlaces_4 : decode cX3_readPlaces 4 = .ok (.ifCond .eq 5, 3) := by decide +kernel
theorem dX3_readPlaces_7 : decode cX3_readPlaces 7 = .ok (.iconst 0, 1) := by decide +kernel
theorem dX3_readPlaces_8 : decode cX3_readPlaces 8 = .ok (.ireturn, 1) := by decide +kernel
theorem dX3_readPlaces_9 : decode cX3_readPlaces 9 = .ok (.aload_n 0, 1) := by decide +kernel
theorem dX3_readPlaces_10 : decode cX3_readPlaces 10 = .ok (.getfield 9, 3) := by decide +kernel
theorem dX3_readPlaces_13 : decode cX3_readPlaces 13 = .ok (.invokevirtual 58, 3) := by decide +kernel
theorem dX3_readPlaces_16 : decode cX3_readPlaces 16 = .ok (.aload_n 0, 1) := by decide +kernel
theorem dX3_readPlaces_17 : decode cX3_readPlaces 17 = .ok (.bipush 48, 2) := by decide +kernel
theorem dX3_readPlaces_19 : decode cX3_readPlaces 19 = .ok (.iconst 3, 1) := by decide +kernel
theorem dX3_readPlaces_20 : decode cX3_readPlaces 20 = .ok (.bipush 7, 2) := by decide +kernel
theorem dX3_readPlaces_22 : decode cX3_readPlaces 22 = .ok (.invokevirtual 54, 3) := by decide +kernel
theorem dX3_readPlaces_25 : decode cX3_readPlaces 25 = .ok (.istore_n 1, 1) := by decide +kernel
theorem dX3_readPlaces_26 : decode cX3_readPlaces 26 = .ok (.iload_n 1, 1) := by decide +kernel
theorem dX3_readPlaces_27 : decode cX3_readPlaces 27 = .ok (.bipush (-9), 2) := by decide +kernel
theorem dX3_readPlaces_29 : decode cX3_readPlaces 29 = .ok (.if_icmp .ne 5, 3) := by decide +kernel
theorem dX3_readPlaces_32 : decode cX3_readPlaces 32 = .ok (.iconst 0, 1) := by decide +kernel
theorem dX3_readPlaces_33 : decode cX3_readPlaces 33 = .ok (.ireturn, 1) := by decide +kernel
theorem dX3_readPlaces_34 : decode cX3_readPlaces 34 = .ok (.aload_n 0, 1) := by decide +kernel
theorem dX3_readPlaces_35 : decode cX3_readPlaces 35 = .ok (.getfield 18, 3) := by decide +kernel
theorem dX3_readPlaces_38 : decode cX3_readPlaces 38 = .ok (.iload_n 1, 1) := by decide +kernel
theorem dX3_readPlaces_39 : decode cX3_readPlaces 39 = .ok (.putfield 61, 3) := by decide +kernel
theorem dX3_readPlaces_42 : decode cX3_readPlaces 42 = .ok (.aload_n 0, 1) := by decide +kernel
theorem dX3_readPlaces_43 : decode cX3_readPlaces 43 = .ok (.iconst 1, 1) := by decide +kernel
theorem dX3_readPlaces_44 : decode cX3_readPlaces 44 = .ok (.putfield 25, 3) := by decide +kernel
theorem dX3_readPlaces_47 : decode cX3_readPlaces 47 = .ok (.iconst 1, 1) := by decide +kernel
theorem dX3_readPlaces_48 : decode cX3_readPlaces 48 = .ok (.ireturn, 1) := by decide +kernel
theorem dX3_readFlag_0 : decode cX3_readFlag 0 = .ok (.aload_n 0, 1) := by decide +kernel
theorem dX3_readFlag_1 : decode cX3_readFlag 1 = .ok (.getfield 9, 3) := by decide +kernel
theorem dX3_readFlag_4 : decode cX3_readFlag 4 = .ok (.invokevirtual 58, 3) := by decide +kernel
theorem dX3_readFlag_7 : decode cX3_readFlag 7 = .ok (.aload_n 0, 1) := by decide +kernel
theorem dX3_readFlag_8 : decode cX3_readFlag 8 = .ok (.bipush 97, 2) := by decide +kernel
theorem dX3_readFlag_10 : decode cX3_readFlag 10 = .ok (.iconst 0, 1) := by decide +kernel
theorem dX3_readFlag_11 : decode cX3_readFlag 11 = .ok (.bipush 7, 2) := by decide +kernel
theorem dX3_readFlag_13 : decode cX3_readFlag 13 = .ok (.invokevirtual 54, 3) := by decide +kernel
theorem dX3_readFlag_16 : decode cX3_readFlag 16 = .ok (.istore_n 1, 1) := by decide +kernel
theorem dX3_readFlag_17 : decode cX3_readFlag 17 = .ok (.iload_n 1, 1) := by decide +kernel
theorem dX3_readFlag_18 : decode cX3_readFlag 18 = .ok (.bipush (-9), 2) := by decide +kernel
theorem dX3_readFlag_20 : decode cX3_readFlag 20 = .ok (.if_icmp .ne 5, 3) := by decide +kernel
theorem dX3_readFlag_23 : decode cX3_readFlag 23 = .ok (.iconst 0, 1) := by decide +kernel
theorem dX3_readFlag_24 : decode cX3_readFlag 24 = .ok (.ireturn, 1) := by decide +kernel
theorem dX3_readFlag_25 : decode cX3_readFlag 25 = .ok (.aload_n 0, 1) := by decide +kernel
theorem dX3_readFlag_26 : decode cX3_readFlag 26 = .ok (.bipush 48, 2) := by decide +kernel
theorem dX3_readFlag_28 : decode cX3_readFlag 28 = .ok (.iconst 0, 1) := by decide +kernel
theorem dX3_readFlag_29 : decode cX3_readFlag 29 = .ok (.bipush 7, 2) := by decide +kernel
theorem dX3_readFlag_31 : decode cX3_readFlag 31 = .ok (.invokevirtual 54, 3) := by decide +kernel
theorem dX3_readFlag_34 : decode cX3_readFlag 34 = .ok (.istore_n 2, 1) := by decide +kernel
theorem dX3_readFlag_35 : decode cX3_readFlag 35 = .ok (.iload_n 2, 1) := by decide +kernel
theorem dX3_readFlag_36 : decode cX3_readFlag 36 = .ok (.bipush (-9), 2) := by decide +kernel
theorem dX3_readFlag_38 : decode cX3_readFlag 38 = .ok (.if_icmp .ne 5, 3) := by decide +kernel
theorem dX3_readFlag_41 : decode cX3_readFlag 41 = .ok (.iconst 0, 1) := by decide +kernel
theorem dX3_readFlag_42 : decode cX3_readFlag 42 = .ok (.ireturn, 1) := by decide +kernel
theorem dX3_readFlag_43 : decode cX3_readFlag 43 = .ok (.aload_n 0, 1) := by decide +kernel
theorem dX3_readFlag_44 : decode cX3_readFlag 44 = .ok (.bipush 48, 2) := by decide +kernel
theorem dX3_readFlag_46 : decode cX3_readFlag 46 = .ok (.iconst 1, 1) := by decide +kernel
theorem dX3_readFlag_47 : decode cX3_readFlag 47 = .ok (.bipush 9, 2) := by decide +kernel
theorem dX3_readFlag_49 : decode cX3_readFlag 49 = .ok (.invokevirtual 54, 3) := by decide +kernel
theorem dX3_readFlag_52 : decode cX3_readFlag 52 = .ok (.istore_n 3, 1) := by decide +kernel
theorem dX3_readFlag_53 : decode cX3_readFlag 53 = .ok (.iload_n 3, 1) := by decide +kernel
theorem dX3_readFlag_54 : decode cX3_readFlag 54 = .ok (.bipush (-9), 2) := by decide +kernel
theorem dX3_readFlag_56 : decode cX3_readFlag 56 = .ok (.if_icmp .ne 5, 3) := by decide +kernel
theorem dX3_readFlag_59 : decode cX3_readFlag 59 = .ok (.iconst 0, 1) := by decide +kernel
theorem dX3_readFlag_60 : decode cX3_readFlag 60 = .ok (.ireturn, 1) := by decide +kernel
theorem dX3_readFlag_61 : decode cX3_readFlag 61 = .ok (.aload_n 0, 1) := by decide +kernel
theorem dX3_readFlag_62 : decode cX3_readFlag 62 = .ok (.getfield 18, 3) := by decide +kernel
theorem dX3_readFlag_65 : decode cX3_readFlag 65 = .ok (.getfield 64, 3) := by decide +kernel
theorem dX3_readFlag_68 : decode cX3_readFlag 68 = .ok (.iload_n 1, 1) := by decide +kernel
theorem dX3_readFlag_69 : decode cX3_readFlag 69 = .ok (.iload_n 2, 1) := by decide +kernel
theorem dX3_readFlag_70 : decode cX3_readFlag 70 = .ok (.iastore, 1) := by decide +kernel
theorem dX3_readFlag_71 : decode cX3_readFlag 71 = .ok (.aload_n 0, 1) := by decide +kernel
theorem dX3_readFlag_72 : decode cX3_readFlag 72 = .ok (.getfield 18, 3) := by decide +kernel
theorem dX3_readFlag_75 : decode cX3_readFlag 75 = .ok (.getfield 68, 3) := by decide +kernel
theorem dX3_readFlag_78 : decode cX3_readFlag 78 = .ok (.iload_n 1, 1) := by decide +kernel
theorem dX3_readFlag_79 : decode cX3_readFlag 79 = .ok (.iload_n 3, 1) := by decide +kernel
theorem dX3_readFlag_80 : decode cX3_readFlag 80 = .ok (.iastore, 1) := by decide +kernel
theorem dX3_readFlag_81 : decode cX3_readFlag 81 = .ok (.iconst 1, 1) := by decide +kernel
theorem dX3_readFlag_82 : decode cX3_readFlag 82 = .ok (.ireturn, 1) := by decide +kernel
theorem dX3_readCode_0 : decode cX3_readCode 0 = .ok (.aload_n 0, 1) := by decide +kernel
theorem dX3_readCode_1 : decode cX3_readCode 1 = .ok (.getfield 18, 3) := by decide +kernel
theorem dX3_readCode_4 : decode cX3_readCode 4 = .ok (.getfield 71, 3) := by decide +kernel
theorem dX3_readCode_7 : decode cX3_readCode 7 = .ok (.bipush 10, 2) := by decide +kernel
theorem dX3_readCode_9 : decode cX3_readCode 9 = .ok (.if_icmp .lt 5, 3) := by decide +kernel
theorem dX3_readCode_12 : decode cX3_readCode 12 = .ok (.iconst 0, 1) := by decide +kernel
theorem dX3_readCode_13 : decode cX3_readCode 13 = .ok (.ireturn, 1) := by decide +kernel
theorem dX3_readCode_14 : decode cX3_readCode 14 = .ok (.aload_n 0, 1) := by decide +kernel
theorem dX3_readCode_15 : decode cX3_readCode 15 = .ok (.getfield 9, 3) := by decide +kernel
theorem dX3_readCode_18 : decode cX3_readCode 18 = .ok (.invokevirtual 58, 3) := by decide +kernel
theorem dX3_readCode_21 : decode cX3_readCode 21 = .ok (.iconst 0, 1) := by decide +kernel
theorem dX3_readCode_22 : decode cX3_readCode 22 = .ok (.istore_n 1, 1) := by decide +kernel
theorem dX3_readCode_23 : decode cX3_readCode 23 = .ok (.iconst 0, 1) := by decide +kernel
theorem dX3_readCode_24 : decode cX3_readCode 24 = .ok (.istore_n 2, 1) := by decide +kernel
theorem dX3_readCode_25 : decode cX3_readCode 25 = .ok (.iconst 0, 1) := by decide +kernel
theorem dX3_readCode_26 : decode cX3_readCode 26 = .ok (.istore_n 3, 1) := by decide +kernel
theorem dX3_readCode_27 : decode cX3_readCode 27 = .ok (.iload_n 3, 1) := by decide +kernel
theorem dX3_readCode_28 : decode cX3_readCode 28 = .ok (.iconst 4, 1) := by decide +kernel
theorem dX3_readCode_29 : decode cX3_readCode 29 = .ok (.if_icmp .ge 44, 3) := by decide +kernel
theorem dX3_readCode_32 : decode cX3_readCode 32 = .ok (.iload_n 1, 1) := by decide +kernel
theorem dX3_readCode_33 : decode cX3_readCode 33 = .ok (.iload_n 3, 1) := by decide +kernel
theorem dX3_readCode_34 : decode cX3_readCode 34 = .ok (.if_icmp .ne 39, 3) := by decide +kernel
theorem dX3_readCode_37 : decode cX3_readCode 37 = .ok (.aload_n 0, 1) := by decide +kernel
theorem dX3_readCode_38 : decode cX3_readCode 38 = .ok (.bipush 97, 2) := by decide +kernel
theorem dX3_readCode_40 : decode cX3_readCode 40 = .ok (.iconst 0, 1) := by decide +kernel
theorem dX3_readCode_41 : decode cX3_readCode 41 = .ok (.bipush 7, 2) := by decide +kernel
theorem dX3_readCode_43 : decode cX3_readCode 43 = .ok (.invokevirtual 54, 3) := by decide +kernel
theorem dX3_readCode_46 : decode cX3_readCode 46 = .ok (.istore 4, 2) := by decide +kernel
theorem dX3_readCode_48 : decode cX3_readCode 48 = .ok (.iload 4, 2) := by decide +kernel
theorem dX3_readCode_50 : decode cX3_readCode 50 = .ok (.bipush (-9), 2) := by decide +kernel
theorem dX3_readCode_52 : decode cX3_readCode 52 = .ok (.if_icmp .eq 15, 3) := by decide +kernel
theorem dX3_readCode_55 : decode cX3_readCode 55 = .ok (.iload_n 2, 1) := by decide +kernel
theorem dX3_readCode_56 : decode cX3_readCode 56 = .ok (.iload 4, 2) := by decide +kernel
theorem dX3_readCode_58 : decode cX3_readCode 58 = .ok (.iload_n 3, 1) := by decide +kernel
theorem dX3_readCode_59 : decode cX3_readCode 59 = .ok (.invokestatic 74, 3) := by decide +kernel
theorem dX3_readCode_62 : decode cX3_readCode 62 = .ok (.ior, 1) := by decide +kernel
theorem dX3_readCode_63 : decode cX3_readCode 63 = .ok (.istore_n 2, 1) := by decide +kernel
theorem dX3_readCode_64 : decode cX3_readCode 64 = .ok (.iinc 1 1, 3) := by decide +kernel
theorem dX3_readCode_67 : decode cX3_readCode 67 = .ok (.iinc 3 1, 3) := by decide +kernel
theorem dX3_readCode_70 : decode cX3_readCode 70 = .ok (.goto (-43), 3) := by decide +kernel
theorem dX3_readCode_73 : decode cX3_readCode 73 = .ok (.iload_n 1, 1) := by decide +kernel
theorem dX3_readCode_74 : decode cX3_readCode 74 = .ok (.ifCond .eq 14, 3) := by decide +kernel
theorem dX3_readCode_77 : decode cX3_readCode 77 = .ok (.aload_n 0, 1) := by decide +kernel
theorem dX3_readCode_78 : decode cX3_readCode 78 = .ok (.getfield 18, 3) := by decide +kernel
theorem dX3_readCode_81 : decode cX3_readCode 81 = .ok (.iload_n 2, 1) := by decide +kernel
theorem dX3_readCode_82 : decode cX3_readCode 82 = .ok (.invokevirtual 78, 3) := by decide +kernel
theorem dX3_readCode_85 : decode cX3_readCode 85 = .ok (.ifCond .eq 5, 3) := by decide +kernel
theorem dX3_readCode_88 : decode cX3_readCode 88 = .ok (.iconst 0, 1) := by decide +kernel
theorem dX3_readCode_89 : decode cX3_readCode 89 = .ok (.ireturn, 1) := by decide +kernel
theorem dX3_readCode_90 : decode cX3_readCode 90 = .ok (.aload_n 0, 1) := by decide +kernel
theorem dX3_readCode_91 : decode cX3_readCode 91 = .ok (.getfield 18, 3) := by decide +kernel
theorem dX3_readCode_94 : decode cX3_readCode 94 = .ok (.iload_n 2, 1) := by decide +kernel
theorem dX3_readCode_95 : decode cX3_readCode 95 = .ok (.invokevirtual 82, 3) := by decide +kernel
theorem dX3_readCode_98 : decode cX3_readCode 98 = .ok (.iconst 1, 1) := by decide +kernel
theorem dX3_readCode_99 : decode cX3_readCode 99 = .ok (.ireturn, 1) := by decide +kernel
theorem dX3_take_0 : decode cX3_take 0 = .ok (.aload_n 0, 1) := by decide +kernel
theorem dX3_take_1 : decode cX3_take 1 = .ok (.getfield 9, 3) := by decide +kernel
theorem dX3_take_4 : decode cX3_take 4 = .ok (.getfield 34, 3) := by decide +kernel
theorem dX3_take_7 : decode cX3_take 7 = .ok (.iload_n 1, 1) := by decide +kernel
theorem dX3_take_8 : decode cX3_take 8 = .ok (.isub, 1) := by decide +kernel
theorem dX3_take_9 : decode cX3_take 9 = .ok (.istore 4, 2) := by decide +kernel
theorem dX3_take_11 : decode cX3_take 11 = .ok (.iload 4, 2) := by decide +kernel
theorem dX3_take_13 : decode cX3_take 13 = .ok (.iload_n 2, 1) := by decide +kernel
theorem dX3_take_14 : decode cX3_take 14 = .ok (.if_icmp .lt 9, 3) := by decide +kernel
theorem dX3_take_17 : decode cX3_take 17 = .ok (.iload 4, 2) := by decide +kernel
theorem dX3_take_19 : decode cX3_take 19 = .ok (.iload_n 3, 1) := by decide +kernel
theorem dX3_take_20 : decode cX3_take 20 = .ok (.if_icmp .le 6, 3) := by decide +kernel
theorem dX3_take_23 : decode cX3_take 23 = .ok (.bipush (-9), 2) := by decide +kernel
theorem dX3_take_25 : decode cX3_take 25 = .ok (.ireturn, 1) := by decide +kernel
theorem dX3_take_26 : decode cX3_take 26 = .ok (.aload_n 0, 1) := by decide +kernel
theorem dX3_take_27 : decode cX3_take 27 = .ok (.getfield 9, 3) := by decide +kernel
theorem dX3_take_30 : decode cX3_take 30 = .ok (.invokevirtual 58, 3) := by decide +kernel
theorem dX3_take_33 : decode cX3_take 33 = .ok (.iload 4, 2) := by decide +kernel
theorem dX3_take_35 : decode cX3_take 35 = .ok (.ireturn, 1) := by decide +kernel
theorem dX4_init_0 : decode cX4_init 0 = .ok (.aload_n 0, 1) := by decide +kernel
theorem dX4_init_1 : decode cX4_init 1 = .ok (.invokespecial 3, 3) := by decide +kernel
theorem dX4_init_4 : decode cX4_init 4 = .ok (.aload_n 0, 1) := by decide +kernel
theorem dX4_init_5 : decode cX4_init 5 = .ok (.bipush 7, 2) := by decide +kernel
theorem dX4_init_7 : decode cX4_init 7 = .ok (.newarray .int, 2) := by decide +kernel
theorem dX4_init_9 : decode cX4_init 9 = .ok (.putfield 9, 3) := by decide +kernel
theorem dX4_init_12 : decode cX4_init 12 = .ok (.aload_n 0, 1) := by decide +kernel
theorem dX4_init_13 : decode cX4_init 13 = .ok (.bipush 7, 2) := by decide +kernel
theorem dX4_init_15 : decode cX4_init 15 = .ok (.newarray .int, 2) := by decide +kernel
theorem dX4_init_17 : decode cX4_init 17 = .ok (.putfield 15, 3) := by decide +kernel
theorem dX4_init_20 : decode cX4_init 20 = .ok (.return_, 1) := by decide +kernel
theorem dX4_begin_0 : decode cX4_begin 0 = .ok (.aload_n 0, 1) := by decide +kernel
theorem dX4_begin_1 : decode cX4_begin 1 = .ok (.iconst 0, 1) := by decide +kernel
theorem dX4_begin_2 : decode cX4_begin 2 = .ok (.putfield 18, 3) := by decide +kernel
theorem dX4_begin_5 : decode cX4_begin 5 = .ok (.aload_n 0, 1) := by decide +kernel
theorem dX4_begin_6 : decode cX4_begin 6 = .ok (.iconst 0, 1) := by decide +kernel
theorem dX4_begin_7 : decode cX4_begin 7 = .ok (.putfield 22, 3) := by decide +kernel
theorem dX4_begin_10 : decode cX4_begin 10 = .ok (.aload_n 0, 1) := by decide +kernel
theorem dX4_begin_11 : decode cX4_begin 11 = .ok (.iconst 0, 1) := by decide +kernel
theorem dX4_begin_12 : decode cX4_begin 12 = .ok (.putfield 25, 3) := by decide +kernel
theorem dX4_begin_15 : decode cX4_begin 15 = .ok (.aload_n 0, 1) := by decide +kernel
theorem dX4_begin_16 : decode cX4_begin 16 = .ok (.iconst 0, 1) := by decide +kernel
theorem dX4_begin_17 : decode cX4_begin 17 = .ok (.putfield 28, 3) := by decide +kernel
theorem dX4_begin_20 : decode cX4_begin 20 = .ok (.aload_n 0, 1) := by decide +kernel
theorem dX4_begin_21 : decode cX4_begin 21 = .ok (.iload_n 1, 1) := by decide +kernel
theorem dX4_begin_22 : decode cX4_begin 22 = .ok (.bipush 7, 2) := by decide +kernel
theorem dX4_begin_24 : decode cX4_begin 24 = .ok (.invokestatic 31, 3) := by decide +kernel
theorem dX4_begin_27 : decode cX4_begin 27 = .ok (.putfield 37, 3) := by decide +kernel
theorem dX4_begin_30 : decode cX4_begin 30 = .ok (.return_, 1) := by decide +kernel
theorem dX4_addCode_0 : decode cX4_addCode 0 = .ok (.aload_n 0, 1) := by decide +kernel
theorem dX4_addCode_1 : decode cX4_addCode 1 = .ok (.getfield 18, 3) := by decide +kernel
theorem dX4_addCode_4 : decode cX4_addCode 4 = .ok (.ifCond .le 14, 3) := by decide +kernel
theorem dX4_addCode_7 : decode cX4_addCode 7 = .ok (.aload_n 0, 1) := by decide +kernel
theorem dX4_addCode_8 : decode cX4_addCode 8 = .ok (.bipush 20, 2) := by decide +kernel
theorem dX4_addCode_10 : decode cX4_addCode 10 = .ok (.invokevirtual 40, 3) := by decide +kernel
theorem dX4_addCode_13 : decode cX4_addCode 13 = .ok (.ifCond .ne 5, 3) := by decide +kernel
theorem dX4_addCode_16 : decode cX4_addCode 16 = .ok (.iconst 0, 1) := by decide +kernel
theorem dX4_addCode_17 : decode cX4_addCode 17 = .ok (.ireturn, 1) := by decide +kernel
theorem dX4_addCode_18 : decode cX4_addCode 18 = .ok (.iconst 0, 1) := by decide +kernel
theorem dX4_addCode_19 : decode cX4_addCode 19 = .ok (.istore_n 3, 1) := by decide +kernel
theorem dX4_addCode_20 : decode cX4_addCode 20 = .ok (.iload_n 3, 1) := by decide +kernel
theorem dX4_addCode_21 : decode cX4_addCode 21 = .ok (.iconst 4, 1) := by decide +kernel
theorem dX4_addCode_22 : decode cX4_addCode 22 = .ok (.if_icmp .ge 35, 3) := by decide +kernel
theorem dX4_addCode_25 : decode cX4_addCode 25 = .ok (.aload_n 1, 1) := by decide +kernel
theorem dX4_addCode_26 : decode cX4_addCode 26 = .ok (.iload_n 2, 1) := by decide +kernel
theorem dX4_addCode_27 : decode cX4_addCode 27 = .ok (.iload_n 3, 1) := by decide +kernel
theorem dX4_addCode_28 : decode cX4_addCode 28 = .ok (.invokevirtual 44, 3) := by decide +kernel
theorem dX4_addCode_31 : decode cX4_addCode 31 = .ok (.istore 4, 2) := by decide +kernel
theorem dX4_addCode_33 : decode cX4_addCode 33 = .ok (.iload 4, 2) := by decide +kernel
theorem dX4_addCode_35 : decode cX4_addCode 35 = .ok (.bipush (-9), 2) := by decide +kernel
theorem dX4_addCode_37 : decode cX4_addCode 37 = .ok (.if_icmp .eq 14, 3) := by decide +kernel
theorem dX4_addCode_40 : decode cX4_addCode 40 = .ok (.aload_n 0, 1) := by decide +kernel
theorem dX4_addCode_41 : decode cX4_addCode 41 = .ok (.iload 4, 2) := by decide +kernel
theorem dX4_addCode_43 : decode cX4_addCode 43 = .ok (.invokevirtual 49, 3) := by decide +kernel
theorem dX4_addCode_46 : decode cX4_addCode 46 = .ok (.ifCond .ne 5, 3) := by decide +kernel
theorem dX4_addCode_49 : decode cX4_addCode 49 = .ok (.iconst 0, 1) := by decide +kernel
theorem dX4_addCode_50 : decode cX4_addCode 50 = .ok (.ireturn, 1) := by decide +kernel
theorem dX4_addCode_51 : decode cX4_addCode 51 = .ok (.iinc 3 1, 3) := by decide +kernel
theorem dX4_addCode_54 : decode cX4_addCode 54 = .ok (.goto (-34), 3) := by decide +kernel
theorem dX4_addCode_57 : decode cX4_addCode 57 = .ok (.iconst 1, 1) := by decide +kernel
theorem dX4_addCode_58 : decode cX4_addCode 58 = .ok (.ireturn, 1) := by decide +kernel
theorem dX4_addLetter_0 : decode cX4_addLetter 0 = .ok (.iload_n 1, 1) := by decide +kernel
theorem dX4_addLetter_1 : decode cX4_addLetter 1 = .ok (.istore_n 2, 1) := by decide +kernel
theorem dX4_addLetter_2 : decode cX4_addLetter 2 = .ok (.aload_n 0, 1) := by decide +kernel
theorem dX4_addLetter_3 : decode cX4_addLetter 3 = .ok (.iload_n 1, 1) := by decide +kernel
theorem dX4_addLetter_4 : decode cX4_addLetter 4 = .ok (.invokevirtual 52, 3) := by decide +kernel
theorem dX4_addLetter_7 : decode cX4_addLetter 7 = .ok (.ifCond .eq 44, 3) := by decide +kernel
theorem dX4_addLetter_10 : decode cX4_addLetter 10 = .ok (.aload_n 0, 1) := by decide +kernel
theorem dX4_addLetter_11 : decode cX4_addLetter 11 = .ok (.iload_n 1, 1) := by decide +kernel
theorem dX4_addLetter_12 : decode cX4_addLetter 12 = .ok (.invokevirtual 55, 3) := by decide +kernel
theorem dX4_addLetter_15 : decode cX4_addLetter 15 = .ok (.istore_n 3, 1) := by decide +kernel
theorem dX4_addLetter_16 : decode cX4_addLetter 16 = .ok (.iload_n 3, 1) := by decide +kernel
theorem dX4_addLetter_17 : decode cX4_addLetter 17 = .ok (.bipush (-9), 2) := by decide +kernel
theorem dX4_addLetter_19 : decode cX4_addLetter 19 = .ok (.if_icmp .ne 5, 3) := by decide +kernel
theorem dX4_addLetter_22 : decode cX4_addLetter 22 = .ok (.iconst 0, 1) := by decide +kernel
theorem dX4_addLetter_23 : decode cX4_addLetter 23 = .ok (.ireturn, 1) := by decide +kernel
theorem dX4_addLetter_24 : decode cX4_addLetter 24 = .ok (.aload_n 0, 1) := by decide +kernel
theorem dX4_addLetter_25 : decode cX4_addLetter 25 = .ok (.dup, 1) := by decide +kernel
theorem dX4_addLetter_26 : decode cX4_addLetter 26 = .ok (.getfield 28, 3) := by decide +kernel
theorem dX4_addLetter_29 : decode cX4_addLetter 29 = .ok (.iconst 1, 1) := by decide +kernel
theorem dX4_addLetter_30 : decode cX4_addLetter 30 = .ok (.iload_n 3, 1) := by decide +kernel
theorem dX4_addLetter_31 : decode cX4_addLetter 31 = .ok (.ishl, 1) := by decide +kernel
theorem dX4_addLetter_32 : decode cX4_addLetter 32 = .ok (.ior, 1) := by decide +kernel
theorem dX4_addLetter_33 : decode cX4_addLetter 33 = .ok (.putfield 28, 3) := by decide +kernel
theorem dX4_addLetter_36 : decode cX4_addLetter 36 = .ok (.aload_n 0, 1) := by decide +kernel
theorem dX4_addLetter_37 : decode cX4_addLetter 37 = .ok (.dup, 1) := by decide +kernel
theorem dX4_addLetter_38 : decode cX4_addLetter 38 = .ok (.getfield 22, 3) := by decide +kernel
theorem dX4_addLetter_41 : decode cX4_addLetter 41 = .ok (.iconst 1, 1) := by decide +kernel
theorem dX4_addLetter_42 : decode cX4_addLetter 42 = .ok (.iadd, 1) := by decide +kernel
theorem dX4_addLetter_43 : decode cX4_addLetter 43 = .ok (.putfield 22, 3) := by decide +kernel
theorem dX4_addLetter_46 : decode cX4_addLetter 46 = .ok (.bipush 10, 2) := by decide +kernel
theorem dX4_addLetter_48 : decode cX4_addLetter 48 = .ok (.iload_n 3, 1) := by decide +kernel
theorem dX4_addLetter_49 : decode cX4_addLetter 49 = .ok (.iadd, 1) := by decide +kernel
theorem dX4_addLetter_50 : decode cX4_addLetter 50 = .ok (.istore_n 2, 1) := by decide +kernel
theorem dX4_addLetter_51 : decode cX4_addLetter 51 = .ok (.aload_n 0, 1) := by decide +kernel
theorem dX4_addLetter_52 : decode cX4_addLetter 52 = .ok (.iload_n 2, 1) := by decide +kernel
theorem dX4_addLetter_53 : decode cX4_addLetter 53 = .ok (.invokevirtual 40, 3) := by decide +kernel
theorem dX4_addLetter_56 : decode cX4_addLetter 56 = .ok (.ifCond .ne 5, 3) := by decide +kernel
theorem dX4_addLetter_59 : decode cX4_addLetter 59 = .ok (.iconst 0, 1) := by decide +kernel
theorem dX4_addLetter_60 : decode cX4_addLetter 60 = .ok (.ireturn, 1) := by decide +kernel
theorem dX4_addLetter_61 : decode cX4_addLetter 61 = .ok (.aload_n 0, 1) := by decide +kernel
theorem dX4_addLetter_62 : decode cX4_addLetter 62 = .ok (.getfield 15, 3) := by decide +kernel
theorem dX4_addLetter_65 : decode cX4_addLetter 65 = .ok (.aload_n 0, 1) := by decide +kernel
theorem dX4_addLetter_66 : decode cX4_addLetter 66 = .ok (.getfield 25, 3) := by decide +kernel
theorem dX4_addLetter_69 : decode cX4_addLetter 69 = .ok (.iload_n 1, 1) := by decide +kernel
theorem dX4_addLetter_70 : decode cX4_addLetter 70 = .ok (.iastore, 1) := by decide +kernel
theorem dX4_addLetter_71 : decode cX4_addLetter 71 = .ok (.aload_n 0, 1) := by decide +kernel
theorem dX4_addLetter_72 : decode cX4_addLetter 72 = .ok (.dup, 1) := by decide +kernel
theorem dX4_addLetter_73 : decode cX4_addLetter 73 = .ok (.getfield 25, 3) := by decide +kernel
theorem dX4_addLetter_76 : decode cX4_addLetter 76 = .ok (.iconst 1, 1) := by decide +kernel
theorem dX4_addLetter_77 : decode cX4_addLetter 77 = .ok (.iadd, 1) := by decide +kernel
theorem dX4_addLetter_78 : decode cX4_addLetter 78 = .ok (.putfield 25, 3) := by decide +kernel
theorem dX4_addLetter_81 : decode cX4_addLetter 81 = .ok (.iconst 1, 1) := by decide +kernel
theorem dX4_addLetter_82 : decode cX4_addLetter 82 = .ok (.ireturn, 1) := by decide +kernel
theorem dX4_isThere_0 : decode cX4_isThere 0 = .ok (.iconst 0, 1) := by decide +kernel
theorem dX4_isThere_1 : decode cX4_isThere 1 = .ok (.istore_n 2, 1) := by decide +kernel
theorem dX4_isThere_2 : decode cX4_isThere 2 = .ok (.iload_n 2, 1) := by decide +kernel
theorem dX4_isThere_3 : decode cX4_isThere 3 = .ok (.aload_n 0, 1) := by decide +kernel
theorem dX4_isThere_4 : decode cX4_isThere 4 = .ok (.getfield 25, 3) := by decide +kernel
theorem dX4_isThere_7 : decode cX4_isThere 7 = .ok (.if_icmp .ge 21, 3) := by decide +kernel
theorem dX4_isThere_10 : decode cX4_isThere 10 = .ok (.aload_n 0, 1) := by decide +kernel
theorem dX4_isThere_11 : decode cX4_isThere 11 = .ok (.getfield 15, 3) := by decide +kernel
theorem dX4_isThere_14 : decode cX4_isThere 14 = .ok (.iload_n 2, 1) := by decide +kernel
theorem dX4_isThere_15 : decode cX4_isThere 15 = .ok (.iaload, 1) := by decide +kernel
theorem dX4_isThere_16 : decode cX4_isThere 16 = .ok (.iload_n 1, 1) := by decide +kernel
theorem dX4_isThere_17 : decode cX4_isThere 17 = .ok (.if_icmp .ne 5, 3) := by decide +kernel
theorem dX4_isThere_20 : decode cX4_isThere 20 = .ok (.iconst 1, 1) := by decide +kernel
theorem dX4_isThere_21 : decode cX4_isThere 21 = .ok (.ireturn, 1) := by decide +kernel
theorem dX4_isThere_22 : decode cX4_isThere 22 = .ok (.iinc 2 1, 3) := by decide +kernel
theorem dX4_isThere_25 : decode cX4_isThere 25 = .ok (.goto (-23), 3) := by decide +kernel
theorem dX4_isThere_28 : decode cX4_isThere 28 = .ok (.iconst 0, 1) := by decide +kernel
theorem dX4_isThere_29 : decode cX4_isThere 29 = .ok (.ireturn, 1) := by decide +kernel
theorem dX4_freeSubstitute_0 : decode cX4_freeSubstitute 0 = .ok (.iconst 1, 1) := by decide +kernel
theorem dX4_freeSubstitute_1 : decode cX4_freeSubstitute 1 = .ok (.istore_n 2, 1) := by decide +kernel
theorem dX4_freeSubstitute_2 : decode cX4_freeSubstitute 2 = .ok (.iload_n 2, 1) := by decide +kernel
theorem dX4_freeSubstitute_3 : decode cX4_freeSubstitute 3 = .ok (.iconst 3, 1) := by decide +kernel
theorem dX4_freeSubstitute_4 : decode cX4_freeSubstitute 4 = .ok (.if_icmp .gt 52, 3) := by decide +kernel
theorem dX4_freeSubstitute_7 : decode cX4_freeSubstitute 7 = .ok (.iload_n 2, 1) := by decide +kernel
theorem dX4_freeSubstitute_8 : decode cX4_freeSubstitute 8 = .ok (.aload_n 0, 1) := by decide +kernel
theorem dX4_freeSubstitute_9 : decode cX4_freeSubstitute 9 = .ok (.getfield 25, 3) := by decide +kernel
theorem dX4_freeSubstitute_12 : decode cX4_freeSubstitute 12 = .ok (.if_icmp .gt 44, 3) := by decide +kernel
theorem dX4_freeSubstitute_15 : decode cX4_freeSubstitute 15 = .ok (.aload_n 0, 1) := by decide +kernel
theorem dX4_freeSubstitute_16 : decode cX4_freeSubstitute 16 = .ok (.getfield 28, 3) := by decide +kernel
theorem dX4_freeSubstitute_19 : decode cX4_freeSubstitute 19 = .ok (.iconst 1, 1) := by decide +kernel
theorem dX4_freeSubstitute_20 : decode cX4_freeSubstitute 20 = .ok (.iload_n 2, 1) := by decide +kernel
theorem dX4_freeSubstitute_21 : decode cX4_freeSubstitute 21 = .ok (.ishl, 1) := by decide +kernel
theorem dX4_freeSubstitute_22 : decode cX4_freeSubstitute 22 = .ok (.iand, 1) := by decide +kernel
theorem dX4_freeSubstitute_23 : decode cX4_freeSubstitute 23 = .ok (.ifCond .ne 7, 3) := by decide +kernel
theorem dX4_freeSubstitute_26 : decode cX4_freeSubstitute 26 = .ok (.iconst 1, 1) := by decide +kernel
theorem dX4_freeSubstitute_27 : decode cX4_freeSubstitute 27 = .ok (.goto 4, 3) := by decide +kernel
theorem dX4_freeSubstitute_30 : decode cX4_freeSubstitute 30 = .ok (.iconst 0, 1) := by decide +kernel
theorem dX4_freeSubstitute_31 : decode cX4_freeSubstitute 31 = .ok (.istore_n 3, 1) := by decide +kernel
theorem dX4_freeSubstitute_32 : decode cX4_freeSubstitute 32 = .ok (.iload_n 3, 1) := by decide +kernel
theorem dX4_freeSubstitute_33 : decode cX4_freeSubstitute 33 = .ok (.ifCond .eq 17, 3) := by decide +kernel
theorem dX4_freeSubstitute_36 : decode cX4_freeSubstitute 36 = .ok (.aload_n 0, 1) := by decide +kernel
theorem dX4_freeSubstitute_37 : decode cX4_freeSubstitute 37 = .ok (.getfield 15, 3) := by decide +kernel
theorem dX4_freeSubstitute_40 : decode cX4_freeSubstitute 40 = .ok (.iload_n 2, 1) := by decide +kernel
theorem dX4_freeSubstitute_41 : decode cX4_freeSubstitute 41 = .ok (.iconst 1, 1) := by decide +kernel
theorem dX4_freeSubstitute_42 : decode cX4_freeSubstitute 42 = .ok (.isub, 1) := by decide +kernel
theorem dX4_freeSubstitute_43 : decode cX4_freeSubstitute 43 = .ok (.iaload, 1) := by decide +kernel
theorem dX4_freeSubstitute_44 : decode cX4_freeSubstitute 44 = .ok (.iload_n 1, 1) := by decide +kernel
theorem dX4_freeSubstitute_45 : decode cX4_freeSubstitute 45 = .ok (.if_icmp .ne 5, 3) := by decide +kernel
theorem dX4_freeSubstitute_48 : decode cX4_freeSubstitute 48 = .ok (.iload_n 2, 1) := by decide +kernel
theorem dX4_freeSubstitute_49 : decode cX4_freeSubstitute 49 = .ok (.ireturn, 1) := by decide +kernel
theorem dX4_freeSubstitute_50 : decode cX4_freeSubstitute 50 = .ok (.iinc 2 1, 3) := by decide +kernel
theorem dX4_freeSubstitute_53 : decode cX4_freeSubstitute 53 = .ok (.goto (-51), 3) := by decide +kernel
theorem dX4_freeSubstitute_56 : decode cX4_freeSubstitute 56 = .ok (.bipush (-9), 2) := by decide +kernel
theorem dX4_freeSubstitute_58 : decode cX4_freeSubstitute 58 = .ok (.ireturn, 1) := by decide +kernel
theorem dX4_addThing_0 : decode cX4_addThing 0 = .ok (.aload_n 0, 1) := by decide +kernel
theorem dX4_addThing_1 : decode cX4_addThing 1 = .ok (.getfield 18, 3) := by decide +kernel
theorem dX4_addThing_4 : decode cX4_addThing 4 = .ok (.aload_n 0, 1) := by decide +kernel
theorem dX4_addThing_5 : decode cX4_addThing 5 = .ok (.getfield 37, 3) := by decide +kernel
theorem dX4_addThing_8 : decode cX4_addThing 8 = .ok (.if_icmp .lt 5, 3) := by decide +kernel
theorem dX4_addThing_11 : decode cX4_addThing 11 = .ok (.iconst 0, 1) := by decide +kernel
theorem dX4_addThing_12 : decode cX4_addThing 12 = .ok (.ireturn, 1) := by decide +kernel
theorem dX4_addThing_13 : decode cX4_addThing 13 = .ok (.aload_n 0, 1) := by decide +kernel
theorem dX4_addThing_14 : decode cX4_addThing 14 = .ok (.getfield 9, 3) := by decide +kernel
theorem dX4_addThing_17 : decode cX4_addThing 17 = .ok (.aload_n 0, 1) := by decide +kernel
theorem dX4_addThing_18 : decode cX4_addThing 18 = .ok (.getfield 18, 3) := by decide +kernel
theorem dX4_addThing_21 : decode cX4_addThing 21 = .ok (.iload_n 1, 1) := by decide +kernel
theorem dX4_addThing_22 : decode cX4_addThing 22 = .ok (.iastore, 1) := by decide +kernel
theorem dX4_addThing_23 : decode cX4_addThing 23 = .ok (.aload_n 0, 1) := by decide +kernel
theorem dX4_addThing_24 : decode cX4_addThing 24 = .ok (.dup, 1) := by decide +kernel
theorem dX4_addThing_25 : decode cX4_addThing 25 = .ok (.getfield 18, 3) := by decide +kernel
theorem dX4_addThing_28 : decode cX4_addThing 28 = .ok (.iconst 1, 1) := by decide +kernel
theorem dX4_addThing_29 : decode cX4_addThing 29 = .ok (.iadd, 1) := by decide +kernel
theorem dX4_addThing_30 : decode cX4_addThing 30 = .ok (.putfield 18, 3) := by decide +kernel
theorem dX4_addThing_33 : decode cX4_addThing 33 = .ok (.iconst 1, 1) := by decide +kernel
theorem dX4_addThing_34 : decode cX4_addThing 34 = .ok (.ireturn, 1) := by decide +kernel
theorem dX5_init_0 : decode cX5_init 0 = .ok (.aload_n 0, 1) := by decide +kernel
theorem dX5_init_1 : decode cX5_init 1 = .ok (.invokespecial 3, 3) := by decide +kernel
theorem dX5_init_4 : decode cX5_init 4 = .ok (.aload_n 0, 1) := by decide +kernel
theorem dX5_init_5 : decode cX5_init 5 = .ok (.bipush 6, 2) := by decide +kernel
theorem dX5_init_7 : decode cX5_init 7 = .ok (.newarray .int, 2) := by decide +kernel
theorem dX5_init_9 : decode cX5_init 9 = .ok (.putfield 9, 3) := by decide +kernel
theorem dX5_init_12 : decode cX5_init 12 = .ok (.aload_n 0, 1) := by decide +kernel
theorem dX5_init_13 : decode cX5_init 13 = .ok (.bipush 6, 2) := by decide +kernel
theorem dX5_init_15 : decode cX5_init 15 = .ok (.newarray .int, 2) := by decide +kernel
theorem dX5_init_17 : decode cX5_init 17 = .ok (.putfield 15, 3) := by decide +kernel
theorem dX5_init_20 : decode cX5_init 20 = .ok (.return_, 1) := by decide +kernel
theorem dX5_note_0 : decode cX5_note 0 = .ok (.aload_n 0, 1) := by decide +kernel
theorem dX5_note_1 : decode cX5_note 1 = .ok (.getfield 18, 3) := by decide +kernel
theorem dX5_note_4 : decode cX5_note 4 = .ok (.bipush 6, 2) := by decide +kernel
theorem dX5_note_6 : decode cX5_note 6 = .ok (.if_icmp .ge 33, 3) := by decide +kernel
theorem dX5_note_9 : decode cX5_note 9 = .ok (.aload_n 0, 1) := by decide +kernel
theorem dX5_note_10 : decode cX5_note 10 = .ok (.getfield 9, 3) := by decide +kernel
theorem dX5_note_13 : decode cX5_note 13 = .ok (.aload_n 0, 1) := by decide +kernel
theorem dX5_note_14 : decode cX5_note 14 = .ok (.getfield 18, 3) := by decide +kernel
theorem dX5_note_17 : decode cX5_note 17 = .ok (.iload_n 1, 1) := by decide +kernel
theorem dX5_note_18 : decode cX5_note 18 = .ok (.iastore, 1) := by decide +kernel
theorem dX5_note_19 : decode cX5_note 19 = .ok (.aload_n 0, 1) := by decide +kernel
theorem dX5_note_20 : decode cX5_note 20 = .ok (.getfield 15, 3) := by decide +kernel
theorem dX5_note_23 : decode cX5_note 23 = .ok (.aload_n 0, 1) := by decide +kernel
theorem dX5_note_24 : decode cX5_note 24 = .ok (.getfield 18, 3) := by decide +kernel
theorem dX5_note_27 : decode cX5_note 27 = .ok (.iload_n 2, 1) := by decide +kernel
theorem dX5_note_28 : decode cX5_note 28 = .ok (.iastore, 1) := by decide +kernel
theorem dX5_note_29 : decode cX5_note 29 = .ok (.aload_n 0, 1) := by decide +kernel
theorem dX5_note_30 : decode cX5_note 30 = .ok (.dup, 1) := by decide +kernel
theorem dX5_note_31 : decode cX5_note 31 = .ok (.getfield 18, 3) := by decide +kernel
theorem dX5_note_34 : decode cX5_note 34 = .ok (.iconst 1, 1) := by decide +kernel
theorem dX5_note_35 : decode cX5_note 35 = .ok (.iadd, 1) := by decide +kernel
theorem dX5_note_36 : decode cX5_note 36 = .ok (.putfield 18, 3) := by decide +kernel
theorem dX5_note_39 : decode cX5_note 39 = .ok (.return_, 1) := by decide +kernel
theorem dX5_allFit_0 : decode cX5_allFit 0 = .ok (.iconst 0, 1) := by decide +kernel
theorem dX5_allFit_1 : decode cX5_allFit 1 = .ok (.istore_n 2, 1) := by decide +kernel
theorem dX5_allFit_2 : decode cX5_allFit 2 = .ok (.iload_n 2, 1) := by decide +kernel
theorem dX5_allFit_3 : decode cX5_allFit 3 = .ok (.aload_n 0, 1) := by decide +kernel
theorem dX5_allFit_4 : decode cX5_allFit 4 = .ok (.getfield 18, 3) := by decide +kernel
theorem dX5_allFit_7 : decode cX5_allFit 7 = .ok (.if_icmp .ge 30, 3) := by decide +kernel
theorem dX5_allFit_10 : decode cX5_allFit 10 = .ok (.aload_n 1, 1) := by decide +kernel
theorem dX5_allFit_11 : decode cX5_allFit 11 = .ok (.aload_n 0, 1) := by decide +kernel
theorem dX5_allFit_12 : decode cX5_allFit 12 = .ok (.getfield 9, 3) := by decide +kernel
theorem dX5_allFit_15 : decode cX5_allFit 15 = .ok (.iload_n 2, 1) := by decide +kernel
theorem dX5_allFit_16 : decode cX5_allFit 16 = .ok (.iaload, 1) := by decide +kernel
theorem dX5_allFit_17 : decode cX5_allFit 17 = .ok (.invokevirtual 22, 3) := by decide +kernel
theorem dX5_allFit_20 : decode cX5_allFit 20 = .ok (.aload_n 0, 1) := by decide +kernel
theorem dX5_allFit_21 : decode cX5_allFit 21 = .ok (.getfield 15, 3) := by decide +kernel
theorem dX5_allFit_24 : decode cX5_allFit 24 = .ok (.iload_n 2, 1) := by decide +kernel
theorem dX5_allFit_25 : decode cX5_allFit 25 = .ok (.iaload, 1) := by decide +kernel
theorem dX5_allFit_26 : decode cX5_allFit 26 = .ok (.if_icmp .eq 5, 3) := by decide +kernel
theorem dX5_allFit_29 : decode cX5_allFit 29 = .ok (.iconst 0, 1) := by decide +kernel
theorem dX5_allFit_30 : decode cX5_allFit 30 = .ok (.ireturn, 1) := by decide +kernel
theorem dX5_allFit_31 : decode cX5_allFit 31 = .ok (.iinc 2 1, 3) := by decide +kernel
theorem dX5_allFit_34 : decode cX5_allFit 34 = .ok (.goto (-32), 3) := by decide +kernel
theorem dX5_allFit_37 : decode cX5_allFit 37 = .ok (.iconst 1, 1) := by decide +kernel
theorem dX5_allFit_38 : decode cX5_allFit 38 = .ok (.ireturn, 1) := by decide +kernel
theorem dX6_init_0 : decode cX6_init 0 = .ok (.aload_n 0, 1) := by decide +kernel
theorem dX6_init_1 : decode cX6_init 1 = .ok (.invokespecial 3, 3) := by decide +kernel
theorem dX6_init_4 : decode cX6_init 4 = .ok (.aload_n 0, 1) := by decide +kernel
theorem dX6_init_5 : decode cX6_init 5 = .ok (.bipush 8, 2) := by decide +kernel
theorem dX6_init_7 : decode cX6_init 7 = .ok (.newarray .int, 2) := by decide +kernel
theorem dX6_init_9 : decode cX6_init 9 = .ok (.putfield 9, 3) := by decide +kernel
theorem dX6_init_12 : decode cX6_init 12 = .ok (.return_, 1) := by decide +kernel
theorem dX6_begin_0 : decode cX6_begin 0 = .ok (.aload_n 0, 1) := by decide +kernel
theorem dX6_begin_1 : decode cX6_begin 1 = .ok (.iconst 0, 1) := by decide +kernel
theorem dX6_begin_2 : decode cX6_begin 2 = .ok (.putfield 15, 3) := by decide +kernel
theorem dX6_begin_5 : decode cX6_begin 5 = .ok (.aload_n 0, 1) := by decide +kernel
theorem dX6_begin_6 : decode cX6_begin 6 = .ok (.iload_n 1, 1) := by decide +kernel
theorem dX6_begin_7 : decode cX6_begin 7 = .ok (.putfield 19, 3) := by decide +kernel
theorem dX6_begin_10 : decode cX6_begin 10 = .ok (.aload_n 0, 1) := by decide +kernel
theorem dX6_begin_11 : decode cX6_begin 11 = .ok (.invokevirtual 22, 3) := by decide +kernel
theorem dX6_begin_14 : decode cX6_begin 14 = .ok (.return_, 1) := by decide +kernel
theorem dX6_nothingSent_0 : decode cX6_nothingSent 0 = .ok (.aload_n 0, 1) := by decide +kernel
theorem dX6_nothingSent_1 : decode cX6_nothingSent 1 = .ok (.iconst 0, 1) := by decide +kernel
theorem dX6_nothingSent_2 : decode cX6_nothingSent 2 = .ok (.putfield 25, 3) := by decide +kernel
theorem dX6_nothingSent_5 : decode cX6_nothingSent 5 = .ok (.aload_n 0, 1) := by decide +kernel
theorem dX6_nothingSent_6 : decode cX6_nothingSent 6 = .ok (.iconst 0, 1) := by decide +kernel
theorem dX6_nothingSent_7 : decode cX6_nothingSent 7 = .ok (.putfield 28, 3) := by decide +kernel
theorem dX6_nothingSent_10 : decode cX6_nothingSent 10 = .ok (.return_, 1) := by decide +kernel
theorem dX6_isUp_0 : decode cX6_isUp 0 = .ok (.aload_n 0, 1) := by decide +kernel
theorem dX6_isUp_1 : decode cX6_isUp 1 = .ok (.getfield 28, 3) := by decide +kernel
theorem dX6_isUp_4 : decode cX6_isUp 4 = .ok (.ifCond .le 7, 3) := by decide +kernel
theorem dX6_isUp_7 : decode cX6_isUp 7 = .ok (.iconst 1, 1) := by decide +kernel
theorem dX6_isUp_8 : decode cX6_isUp 8 = .ok (.goto 4, 3) := by decide +kernel
theorem dX6_isUp_11 : decode cX6_isUp 11 = .ok (.iconst 0, 1) := by decide +kernel
theorem dX6_isUp_12 : decode cX6_isUp 12 = .ok (.ireturn, 1) := by decide +kernel
theorem dX6_hasPlace_0 : decode cX6_hasPlace 0 = .ok (.iload_n 1, 1) := by decide +kernel
theorem dX6_hasPlace_1 : decode cX6_hasPlace 1 = .ok (.ifCond .lt 15, 3) := by decide +kernel
theorem dX6_hasPlace_4 : decode cX6_hasPlace 4 = .ok (.iload_n 1, 1) := by decide +kernel
theorem dX6_hasPlace_5 : decode cX6_hasPlace 5 = .ok (.aload_n 0, 1) := by decide +kernel
theorem dX6_hasPlace_6 : decode cX6_hasPlace 6 = .ok (.getfield 15, 3) := by decide +kernel
theorem dX6_hasPlace_9 : decode cX6_hasPlace 9 = .ok (.if_icmp .ge 7, 3) := by decide +kernel
theorem dX6_hasPlace_12 : decode cX6_hasPlace 12 = .ok (.iconst 1, 1) := by decide +kernel
theorem dX6_hasPlace_13 : decode cX6_hasPlace 13 = .ok (.goto 4, 3) := by decide +kernel
theorem dX6_hasPlace_16 : decode cX6_hasPlace 16 = .ok (.iconst 0, 1) := by decide +kernel
theorem dX6_hasPlace_17 : decode cX6_hasPlace 17 = .ok (.ireturn, 1) := by decide +kernel
theorem dX6_insert_0 : decode cX6_insert 0 = .ok (.iload_n 1, 1) := by decide +kernel
theorem dX6_insert_1 : decode cX6_insert 1 = .ok (.ifCond .lt 20, 3) := by decide +kernel
theorem dX6_insert_4 : decode cX6_insert 4 = .ok (.iload_n 1, 1) := by decide +kernel
theorem dX6_insert_5 : decode cX6_insert 5 = .ok (.aload_n 0, 1) := by decide +kernel
theorem dX6_insert_6 : decode cX6_insert 6 = .ok (.getfield 15, 3) := by decide +kernel
theorem dX6_insert_9 : decode cX6_insert 9 = .ok (.if_icmp .gt 12, 3) := by decide +kernel
theorem dX6_insert_12 : decode cX6_insert 12 = .ok (.aload_n 0, 1) := by decide +kernel
theorem dX6_insert_13 : decode cX6_insert 13 = .ok (.getfield 15, 3) := by decide +kernel
theorem dX6_insert_16 : decode cX6_insert 16 = .ok (.bipush 8, 2) := by decide +kernel
theorem dX6_insert_18 : decode cX6_insert 18 = .ok (.if_icmp .lt 4, 3) := by decide +kernel
theorem dX6_insert_21 : decode cX6_insert 21 = .ok (.return_, 1) := by decide +kernel
theorem dX6_insert_22 : decode cX6_insert 22 = .ok (.aload_n 0, 1) := by decide +kernel
theorem dX6_insert_23 : decode cX6_insert 23 = .ok (.getfield 15, 3) := by decide +kernel
theorem dX6_insert_26 : decode cX6_insert 26 = .ok (.istore_n 3, 1) := by decide +kernel
theorem dX6_insert_27 : decode cX6_insert 27 = .ok (.iload_n 3, 1) := by decide +kernel
theorem dX6_insert_28 : decode cX6_insert 28 = .ok (.iload_n 1, 1) := by decide +kernel
theorem dX6_insert_29 : decode cX6_insert 29 = .ok (.if_icmp .le 23, 3) := by decide +kernel
theorem dX6_insert_32 : decode cX6_insert 32 = .ok (.aload_n 0, 1) := by decide +kernel
theorem dX6_insert_33 : decode cX6_insert 33 = .ok (.getfield 9, 3) := by decide +kernel
theorem dX6_insert_36 : decode cX6_insert 36 = .ok (.iload_n 3, 1) := by decide +kernel
theorem dX6_insert_37 : decode cX6_insert 37 = .ok (.aload_n 0, 1) := by decide +kernel
theorem dX6_insert_38 : decode cX6_insert 38 = .ok (.getfield 9, 3) := by decide +kernel
theorem dX6_insert_41 : decode cX6_insert 41 = .ok (.iload_n 3, 1) := by decide +kernel
theorem dX6_insert_42 : decode cX6_insert 42 = .ok (.iconst 1, 1) := by decide +kernel
theorem dX6_insert_43 : decode cX6_insert 43 = .ok (.isub, 1) := by decide +kernel
theorem dX6_insert_44 : decode cX6_insert 44 = .ok (.iaload, 1) := by decide +kernel
theorem dX6_insert_45 : decode cX6_insert 45 = .ok (.iastore, 1) := by decide +kernel
theorem dX6_insert_46 : decode cX6_insert 46 = .ok (.iinc 3 (-1), 3) := by decide +kernel
theorem dX6_insert_49 : decode cX6_insert 49 = .ok (.goto (-22), 3) := by decide +kernel
theorem dX6_insert_52 : decode cX6_insert 52 = .ok (.aload_n 0, 1) := by decide +kernel
theorem dX6_insert_53 : decode cX6_insert 53 = .ok (.getfield 9, 3) := by decide +kernel
theorem dX6_insert_56 : decode cX6_insert 56 = .ok (.iload_n 1, 1) := by decide +kernel
theorem dX6_insert_57 : decode cX6_insert 57 = .ok (.iload_n 2, 1) := by decide +kernel
theorem dX6_insert_58 : decode cX6_insert 58 = .ok (.iastore, 1) := by decide +kernel
theorem dX6_insert_59 : decode cX6_insert 59 = .ok (.aload_n 0, 1) := by decide +kernel
theorem dX6_insert_60 : decode cX6_insert 60 = .ok (.dup, 1) := by decide +kernel
theorem dX6_insert_61 : decode cX6_insert 61 = .ok (.getfield 15, 3) := by decide +kernel
theorem dX6_insert_64 : decode cX6_insert 64 = .ok (.iconst 1, 1) := by decide +kernel
theorem dX6_insert_65 : decode cX6_insert 65 = .ok (.iadd, 1) := by decide +kernel
theorem dX6_insert_66 : decode cX6_insert 66 = .ok (.putfield 15, 3) := by decide +kernel
theorem dX6_insert_69 : decode cX6_insert 69 = .ok (.aload_n 0, 1) := by decide +kernel
theorem dX6_insert_70 : decode cX6_insert 70 = .ok (.invokevirtual 22, 3) := by decide +kernel
theorem dX6_insert_73 : decode cX6_insert 73 = .ok (.return_, 1) := by decide +kernel
theorem dX6_remove_0 : decode cX6_remove 0 = .ok (.aload_n 0, 1) := by decide +kernel
theorem dX6_remove_1 : decode cX6_remove 1 = .ok (.iload_n 1, 1) := by decide +kernel
theorem dX6_remove_2 : decode cX6_remove 2 = .ok (.invokevirtual 31, 3) := by decide +kernel
theorem dX6_remove_5 : decode cX6_remove 5 = .ok (.ifCond .ne 6, 3) := by decide +kernel
theorem dX6_remove_8 : decode cX6_remove 8 = .ok (.bipush (-9), 2) := by decide +kernel
theorem dX6_remove_10 : decode cX6_remove 10 = .ok (.ireturn, 1) := by decide +kernel
theorem dX6_remove_11 : decode cX6_remove 11 = .ok (.aload_n 0, 1) := by decide +kernel
theorem dX6_remove_12 : decode cX6_remove 12 = .ok (.getfield 9, 3) := by decide +kernel
theorem dX6_remove_15 : decode cX6_remove 15 = .ok (.iload_n 1, 1) := by decide +kernel
theorem dX6_remove_16 : decode cX6_remove 16 = .ok (.iaload, 1) := by decide +kernel
theorem dX6_remove_17 : decode cX6_remove 17 = .ok (.istore_n 2, 1) := by decide +kernel
theorem dX6_remove_18 : decode cX6_remove 18 = .ok (.aload_n 0, 1) := by decide +kernel
theorem dX6_remove_19 : decode cX6_remove 19 = .ok (.dup, 1) := by decide +kernel
theorem dX6_remove_20 : decode cX6_remove 20 = .ok (.getfield 15, 3) := by decide +kernel
theorem dX6_remove_23 : decode cX6_remove 23 = .ok (.iconst 1, 1) := by decide +kernel
theorem dX6_remove_24 : decode cX6_remove 24 = .ok (.isub, 1) := by decide +kernel
theorem dX6_remove_25 : decode cX6_remove 25 = .ok (.putfield 15, 3) := by decide +kernel
theorem dX6_remove_28 : decode cX6_remove 28 = .ok (.iload_n 1, 1) := by decide +kernel
theorem dX6_remove_29 : decode cX6_remove 29 = .ok (.istore_n 3, 1) := by decide +kernel
theorem dX6_remove_30 : decode cX6_remove 30 = .ok (.iload_n 3, 1) := by decide +kernel
theorem dX6_remove_31 : decode cX6_remove 31 = .ok (.aload_n 0, 1) := by decide +kernel
theorem dX6_remove_32 : decode cX6_remove 32 = .ok (.getfield 15, 3) := by decide +kernel
theorem dX6_remove_35 : decode cX6_remove 35 = .ok (.if_icmp .ge 23, 3) := by decide +kernel
theorem dX6_remove_38 : decode cX6_remove 38 = .ok (.aload_n 0, 1) := by decide +kernel
theorem dX6_remove_39 : decode cX6_remove 39 = .ok (.getfield 9, 3) := by decide +kernel
theorem dX6_remove_42 : decode cX6_remove 42 = .ok (.iload_n 3, 1) := by decide +kernel
theorem dX6_remove_43 : decode cX6_remove 43 = .ok (.aload_n 0, 1) := by decide +kernel
theorem dX6_remove_44 : decode cX6_remove 44 = .ok (.getfield 9, 3) := by decide +kernel
theorem dX6_remove_47 : decode cX6_remove 47 = .ok (.iload_n 3, 1) := by decide +kernel
theorem dX6_remove_48 : decode cX6_remove 48 = .ok (.iconst 1, 1) := by decide +kernel
theorem dX6_remove_49 : decode cX6_remove 49 = .ok (.iadd, 1) := by decide +kernel
theorem dX6_remove_50 : decode cX6_remove 50 = .ok (.iaload, 1) := by decide +kernel
theorem dX6_remove_51 : decode cX6_remove 51 = .ok (.iastore, 1) := by decide +kernel
theorem dX6_remove_52 : decode cX6_remove 52 = .ok (.iinc 3 1, 3) := by decide +kernel
theorem dX6_remove_55 : decode cX6_remove 55 = .ok (.goto (-25), 3) := by decide +kernel
theorem dX6_remove_58 : decode cX6_remove 58 = .ok (.aload_n 0, 1) := by decide +kernel
theorem dX6_remove_59 : decode cX6_remove 59 = .ok (.invokevirtual 22, 3) := by decide +kernel
theorem dX6_remove_62 : decode cX6_remove 62 = .ok (.iload_n 2, 1) := by decide +kernel
theorem dX6_remove_63 : decode cX6_remove 63 = .ok (.ireturn, 1) := by decide +kernel
theorem dX6_sendAgain_0 : decode cX6_sendAgain 0 = .ok (.aload_n 0, 1) := by decide +kernel
theorem dX6_sendAgain_1 : decode cX6_sendAgain 1 = .ok (.dup, 1) := by decide +kernel
theorem dX6_sendAgain_2 : decode cX6_sendAgain 2 = .ok (.getfield 28, 3) := by decide +kernel
theorem dX6_sendAgain_5 : decode cX6_sendAgain 5 = .ok (.iconst 1, 1) := by decide +kernel
theorem dX6_sendAgain_6 : decode cX6_sendAgain 6 = .ok (.iadd, 1) := by decide +kernel
theorem dX6_sendAgain_7 : decode cX6_sendAgain 7 = .ok (.putfield 28, 3) := by decide +kernel
theorem dX6_sendAgain_10 : decode cX6_sendAgain 10 = .ok (.aload_n 0, 1) := by decide +kernel
theorem dX6_sendAgain_11 : decode cX6_sendAgain 11 = .ok (.getfield 28, 3) := by decide +kernel
theorem dX6_sendAgain_14 : decode cX6_sendAgain 14 = .ok (.ireturn, 1) := by decide +kernel
theorem dX6_takeDown_0 : decode cX6_takeDown 0 = .ok (.aload_n 0, 1) := by decide +kernel
theorem dX6_takeDown_1 : decode cX6_takeDown 1 = .ok (.getfield 28, 3) := by decide +kernel
theorem dX6_takeDown_4 : decode cX6_takeDown 4 = .ok (.istore_n 1, 1) := by decide +kernel
theorem dX6_takeDown_5 : decode cX6_takeDown 5 = .ok (.aload_n 0, 1) := by decide +kernel
theorem dX6_takeDown_6 : decode cX6_takeDown 6 = .ok (.iconst 0, 1) := by decide +kernel
theorem dX6_takeDown_7 : decode cX6_takeDown 7 = .ok (.putfield 28, 3) := by decide +kernel
theorem dX6_takeDown_10 : decode cX6_takeDown 10 = .ok (.aload_n 0, 1) := by decide +kernel
theorem dX6_takeDown_11 : decode cX6_takeDown 11 = .ok (.dup, 1) := by decide +kernel
theorem dX6_takeDown_12 : decode cX6_takeDown 12 = .ok (.getfield 25, 3) := by decide +kernel
theorem dX6_takeDown_15 : decode cX6_takeDown 15 = .ok (.iconst 1, 1) := by decide +kernel
theorem dX6_takeDown_16 : decode cX6_takeDown 16 = .ok (.iadd, 1) := by decide +kernel
theorem dX6_takeDown_17 : decode cX6_takeDown 17 = .ok (.putfield 25, 3) := by decide +kernel
theorem dX6_takeDown_20 : decode cX6_takeDown 20 = .ok (.iload_n 1, 1) := by decide +kernel
theorem dX6_takeDown_21 : decode cX6_takeDown 21 = .ok (.ireturn, 1) := by decide +kernel
theorem dX6_copyFrom_0 : decode cX6_copyFrom 0 = .ok (.aload_n 1, 1) := by decide +kernel
theorem dX6_copyFrom_1 : decode cX6_copyFrom 1 = .ok (.getfield 9, 3) := by decide +kernel
theorem dX6_copyFrom_4 : decode cX6_copyFrom 4 = .ok (.iconst 0, 1) := by decide +kernel
theorem dX6_copyFrom_5 : decode cX6_copyFrom 5 = .ok (.aload_n 0, 1) := by decide +kernel
theorem dX6_copyFrom_6 : decode cX6_copyFrom 6 = .ok (.getfield 9, 3) := by decide +kernel
theorem dX6_copyFrom_9 : decode cX6_copyFrom 9 = .ok (.iconst 0, 1) := by decide +kernel
theorem dX6_copyFrom_10 : decode cX6_copyFrom 10 = .ok (.bipush 8, 2) := by decide +kernel
theorem dX6_copyFrom_12 : decode cX6_copyFrom 12 = .ok (.invokestatic 35, 3) := by decide +kernel
theorem dX6_copyFrom_15 : decode cX6_copyFrom 15 = .ok (.aload_n 0, 1) := by decide +kernel
theorem dX6_copyFrom_16 : decode cX6_copyFrom 16 = .ok (.aload_n 1, 1) := by decide +kernel
theorem dX6_copyFrom_17 : decode cX6_copyFrom 17 = .ok (.getfield 15, 3) := by decide +kernel
theorem dX6_copyFrom_20 : decode cX6_copyFrom 20 = .ok (.putfield 15, 3) := by decide +kernel
theorem dX6_copyFrom_23 : decode cX6_copyFrom 23 = .ok (.aload_n 0, 1) := by decide +kernel
theorem dX6_copyFrom_24 : decode cX6_copyFrom 24 = .ok (.aload_n 1, 1) := by decide +kernel
theorem dX6_copyFrom_25 : decode cX6_copyFrom 25 = .ok (.getfield 19, 3) := by decide +kernel
theorem dX6_copyFrom_28 : decode cX6_copyFrom 28 = .ok (.putfield 19, 3) := by decide +kernel
theorem dX6_copyFrom_31 : decode cX6_copyFrom 31 = .ok (.aload_n 0, 1) := by decide +kernel
theorem dX6_copyFrom_32 : decode cX6_copyFrom 32 = .ok (.aload_n 1, 1) := by decide +kernel
theorem dX6_copyFrom_33 : decode cX6_copyFrom 33 = .ok (.getfield 25, 3) := by decide +kernel
theorem dX6_copyFrom_36 : decode cX6_copyFrom 36 = .ok (.putfield 25, 3) := by decide +kernel
theorem dX6_copyFrom_39 : decode cX6_copyFrom 39 = .ok (.aload_n 0, 1) := by decide +kernel
theorem dX6_copyFrom_40 : decode cX6_copyFrom 40 = .ok (.aload_n 1, 1) := by decide +kernel
theorem dX6_copyFrom_41 : decode cX6_copyFrom 41 = .ok (.getfield 28, 3) := by decide +kernel
theorem dX6_copyFrom_44 : decode cX6_copyFrom 44 = .ok (.putfield 28, 3) := by decide +kernel
theorem dX6_copyFrom_47 : decode cX6_copyFrom 47 = .ok (.return_, 1) := by decide +kernel
theorem dX7_init_0 : decode cX7_init 0 = .ok (.aload_n 0, 1) := by decide +kernel
theorem dX7_init_1 : decode cX7_init 1 = .ok (.invokespecial 3, 3) := by decide +kernel
theorem dX7_init_4 : decode cX7_init 4 = .ok (.aload_n 0, 1) := by decide +kernel
theorem dX7_init_5 : decode cX7_init 5 = .ok (.bipush 120, 2) := by decide +kernel
theorem dX7_init_7 : decode cX7_init 7 = .ok (.newarray .int, 2) := by decide +kernel
theorem dX7_init_9 : decode cX7_init 9 = .ok (.putfield 9, 3) := by decide +kernel
theorem dX7_init_12 : decode cX7_init 12 = .ok (.return_, 1) := by decide +kernel
theorem dX7_rewind_0 : decode cX7_rewind 0 = .ok (.aload_n 0, 1) := by decide +kernel
theorem dX7_rewind_1 : decode cX7_rewind 1 = .ok (.iconst 0, 1) := by decide +kernel
theorem dX7_rewind_2 : decode cX7_rewind 2 = .ok (.putfield 15, 3) := by decide +kernel
theorem dX7_rewind_5 : decode cX7_rewind 5 = .ok (.aload_n 0, 1) := by decide +kernel
theorem dX7_rewind_6 : decode cX7_rewind 6 = .ok (.invokevirtual 19, 3) := by decide +kernel
theorem dX7_rewind_9 : decode cX7_rewind 9 = .ok (.return_, 1) := by decide +kernel
theorem dX7_step_0 : decode cX7_step 0 = .ok (.aload_n 0, 1) := by decide +kernel
theorem dX7_step_1 : decode cX7_step 1 = .ok (.aload_n 0, 1) := by decide +kernel
theorem dX7_step_2 : decode cX7_step 2 = .ok (.getfield 15, 3) := by decide +kernel
theorem dX7_step_5 : decode cX7_step 5 = .ok (.putfield 22, 3) := by decide +kernel
theorem dX7_step_8 : decode cX7_step 8 = .ok (.aload_n 0, 1) := by decide +kernel
theorem dX7_step_9 : decode cX7_step 9 = .ok (.getfield 22, 3) := by decide +kernel
theorem dX7_step_12 : decode cX7_step 12 = .ok (.aload_n 0, 1) := by decide +kernel
theorem dX7_step_13 : decode cX7_step 13 = .ok (.getfield 25, 3) := by decide +kernel
theorem dX7_step_16 : decode cX7_step 16 = .ok (.if_icmp .ge 30, 3) := by decide +kernel
theorem dX7_step_19 : decode cX7_step 19 = .ok (.aload_n 0, 1) := by decide +kernel
theorem dX7_step_20 : decode cX7_step 20 = .ok (.getfield 9, 3) := by decide +kernel
theorem dX7_step_23 : decode cX7_step 23 = .ok (.aload_n 0, 1) := by decide +kernel
theorem dX7_step_24 : decode cX7_step 24 = .ok (.getfield 22, 3) := by decide +kernel
theorem dX7_step_27 : decode cX7_step 27 = .ok (.iaload, 1) := by decide +kernel
theorem dX7_step_28 : decode cX7_step 28 = .ok (.bipush 32, 2) := by decide +kernel
theorem dX7_step_30 : decode cX7_step 30 = .ok (.if_icmp .ne 16, 3) := by decide +kernel
theorem dX7_step_33 : decode cX7_step 33 = .ok (.aload_n 0, 1) := by decide +kernel
theorem dX7_step_34 : decode cX7_step 34 = .ok (.dup, 1) := by decide +kernel
theorem dX7_step_35 : decode cX7_step 35 = .ok (.getfield 22, 3) := by decide +kernel
theorem dX7_step_38 : decode cX7_step 38 = .ok (.iconst 1, 1) := by decide +kernel
theorem dX7_step_39 : decode cX7_step 39 = .ok (.iadd, 1) := by decide +kernel
theorem dX7_step_40 : decode cX7_step 40 = .ok (.putfield 22, 3) := by decide +kernel
theorem dX7_step_43 : decode cX7_step 43 = .ok (.goto (-35), 3) := by decide +kernel
theorem dX7_step_46 : decode cX7_step 46 = .ok (.aload_n 0, 1) := by decide +kernel
theorem dX7_step_47 : decode cX7_step 47 = .ok (.getfield 22, 3) := by decide +kernel
theorem dX7_step_50 : decode cX7_step 50 = .ok (.aload_n 0, 1) := by decide +kernel
theorem dX7_step_51 : decode cX7_step 51 = .ok (.getfield 25, 3) := by decide +kernel
theorem dX7_step_54 : decode cX7_step 54 = .ok (.if_icmp .lt 9, 3) := by decide +kernel
theorem dX7_step_57 : decode cX7_step 57 = .ok (.aload_n 0, 1) := by decide +kernel
theorem dX7_step_58 : decode cX7_step 58 = .ok (.iconst (-1), 1) := by decide +kernel
theorem dX7_step_59 : decode cX7_step 59 = .ok (.putfield 28, 3) := by decide +kernel
theorem dX7_step_62 : decode cX7_step 62 = .ok (.return_, 1) := by decide +kernel
theorem dX7_step_63 : decode cX7_step 63 = .ok (.aload_n 0, 1) := by decide +kernel
theorem dX7_step_64 : decode cX7_step 64 = .ok (.aload_n 0, 1) := by decide +kernel
theorem dX7_step_65 : decode cX7_step 65 = .ok (.getfield 9, 3) := by decide +kernel
theorem dX7_step_68 : decode cX7_step 68 = .ok (.aload_n 0, 1) := by decide +kernel
theorem dX7_step_69 : decode cX7_step 69 = .ok (.getfield 22, 3) := by decide +kernel
theorem dX7_step_72 : decode cX7_step 72 = .ok (.iaload, 1) := by decide +kernel
theorem dX7_step_73 : decode cX7_step 73 = .ok (.putfield 28, 3) := by decide +kernel
theorem dX7_step_76 : decode cX7_step 76 = .ok (.aload_n 0, 1) := by decide +kernel
theorem dX7_step_77 : decode cX7_step 77 = .ok (.aload_n 0, 1) := by decide +kernel
theorem dX7_step_78 : decode cX7_step 78 = .ok (.getfield 22, 3) := by decide +kernel
theorem dX7_step_81 : decode cX7_step 81 = .ok (.iconst 1, 1) := by decide +kernel
theorem dX7_step_82 : decode cX7_step 82 = .ok (.iadd, 1) := by decide +kernel
theorem dX7_step_83 : decode cX7_step 83 = .ok (.putfield 15, 3) := by decide +kernel
theorem dX7_step_86 : decode cX7_step 86 = .ok (.aload_n 0, 1) := by decide +kernel
theorem dX7_step_87 : decode cX7_step 87 = .ok (.getfield 28, 3) := by decide +kernel
theorem dX7_step_90 : decode cX7_step 90 = .ok (.invokestatic 31, 3) := by decide +kernel
theorem dX7_step_93 : decode cX7_step 93 = .ok (.ifCond .eq 48, 3) := by decide +kernel
theorem dX7_step_96 : decode cX7_step 96 = .ok (.aload_n 0, 1) := by decide +kernel
theorem dX7_step_97 : decode cX7_step 97 = .ok (.getfield 15, 3) := by decide +kernel
theorem dX7_step_100 : decode cX7_step 100 = .ok (.aload_n 0, 1) := by decide +kernel
theorem dX7_step_101 : decode cX7_step 101 = .ok (.getfield 25, 3) := by decide +kernel
theorem dX7_step_104 : decode cX7_step 104 = .ok (.if_icmp .ge 37, 3) := by decide +kernel
theorem dX7_step_107 : decode cX7_step 107 = .ok (.aload_n 0, 1) := by decide +kernel
theorem dX7_step_108 : decode cX7_step 108 = .ok (.getfield 9, 3) := by decide +kernel
theorem dX7_step_111 : decode cX7_step 111 = .ok (.aload_n 0, 1) := by decide +kernel
theorem dX7_step_112 : decode cX7_step 112 = .ok (.getfield 15, 3) := by decide +kernel
theorem dX7_step_115 : decode cX7_step 115 = .ok (.iaload, 1) := by decide +kernel
theorem dX7_step_116 : decode cX7_step 116 = .ok (.invokestatic 31, 3) := by decide +kernel
theorem dX7_step_119 : decode cX7_step 119 = .ok (.ifCond .eq 22, 3) := by decide +kernel
theorem dX7_step_122 : decode cX7_step 122 = .ok (.aload_n 0, 1) := by decide +kernel
theorem dX7_step_123 : decode cX7_step 123 = .ok (.bipush (-2), 2) := by decide +kernel
theorem dX7_step_125 : decode cX7_step 125 = .ok (.putfield 28, 3) := by decide +kernel
theorem dX7_step_128 : decode cX7_step 128 = .ok (.aload_n 0, 1) := by decide +kernel
theorem dX7_step_129 : decode cX7_step 129 = .ok (.dup, 1) := by decide +kernel
theorem dX7_step_130 : decode cX7_step 130 = .ok (.getfield 15, 3) := by decide +kernel
theorem dX7_step_133 : decode cX7_step 133 = .ok (.iconst 1, 1) := by decide +kernel
theorem dX7_step_134 : decode cX7_step 134 = .ok (.iadd, 1) := by decide +kernel
theorem dX7_step_135 : decode cX7_step 135 = .ok (.putfield 15, 3) := by decide +kernel
theorem dX7_step_138 : decode cX7_step 138 = .ok (.goto (-42), 3) := by decide +kernel
theorem dX7_step_141 : decode cX7_step 141 = .ok (.return_, 1) := by decide +kernel
theorem dX7_isDigit_0 : decode cX7_isDigit 0 = .ok (.iload_n 0, 1) := by decide +kernel
theorem dX7_isDigit_1 : decode cX7_isDigit 1 = .ok (.bipush 48, 2) := by decide +kernel
theorem dX7_isDigit_3 : decode cX7_isDigit 3 = .ok (.if_icmp .lt 13, 3) := by decide +kernel
theorem dX7_isDigit_6 : decode cX7_isDigit 6 = .ok (.iload_n 0, 1) := by decide +kernel
theorem dX7_isDigit_7 : decode cX7_isDigit 7 = .ok (.bipush 57, 2) := by decide +kernel
theorem dX7_isDigit_9 : decode cX7_isDigit 9 = .ok (.if_icmp .gt 7, 3) := by decide +kernel
theorem dX7_isDigit_12 : decode cX7_isDigit 12 = .ok (.iconst 1, 1) := by decide +kernel
theorem dX7_isDigit_13 : decode cX7_isDigit 13 = .ok (.goto 4, 3) := by decide +kernel
theorem dX7_isDigit_16 : decode cX7_isDigit 16 = .ok (.iconst 0, 1) := by decide +kernel
theorem dX7_isDigit_17 : decode cX7_isDigit 17 = .ok (.ireturn, 1) := by decide +kernel
end
section
/-! decode rows -/
theorem dX8_init_0 : decode cX8_init 0 = .ok (.aload_n 0, 1) := by decide +kernel
theorem dX8_init_1 : decode cX8_init 1 = .ok (.invokespecial 1, 3) := by decide +kernel
theorem dX8_init_4 : decode cX8_init 4 = .ok (.aload_n 0, 1) := by decide +kernel
theorem dX8_init_5 : decode cX8_init 5 = .ok (.new 7, 3) := by decide +kernel
theorem dX8_init_8 : decode cX8_init 8 = .ok (.dup, 1) := by decide +kernel
theorem dX8_init_9 : decode cX8_init 9 = .ok (.invokespecial 9, 3) := by decide +kernel
theorem dX8_init_12 : decode cX8_init 12 = .ok (.putfield 10, 3) := by decide +kernel
theorem dX8_init_15 : decode cX8_init 15 = .ok (.aload_n 0, 1) := by decide +kernel
theorem dX8_init_16 : decode cX8_init 16 = .ok (.new 16, 3) := by decide +kernel
theorem dX8_init_19 : decode cX8_init 19 = .ok (.dup, 1) := by decide +kernel
theorem dX8_init_20 : decode cX8_init 20 = .ok (.aload_n 0, 1) := by decide +kernel
theorem dX8_init_21 : decode cX8_init 21 = .ok (.getfield 10, 3) := by decide +kernel
theorem dX8_init_24 : decode cX8_init 24 = .ok (.invokespecial 18, 3) := by decide +kernel
theorem dX8_init_27 : decode cX8_init 27 = .ok (.putfield 21, 3) := by decide +kernel
theorem dX8_init_30 : decode cX8_init 30 = .ok (.aload_n 0, 1) := by decide +kernel
theorem dX8_init_31 : decode cX8_init 31 = .ok (.new 25, 3) := by decide +kernel
theorem dX8_init_34 : decode cX8_init 34 = .ok (.dup, 1) := by decide +kernel
theorem dX8_init_35 : decode cX8_init 35 = .ok (.invokespecial 27, 3) := by decide +kernel
theorem dX8_init_38 : decode cX8_init 38 = .ok (.putfield 28, 3) := by decide +kernel
theorem dX8_init_41 : decode cX8_init 41 = .ok (.aload_n 0, 1) := by decide +kernel
theorem dX8_init_42 : decode cX8_init 42 = .ok (.new 32, 3) := by decide +kernel
theorem dX8_init_45 : decode cX8_init 45 = .ok (.dup, 1) := by decide +kernel
theorem dX8_init_46 : decode cX8_init 46 = .ok (.invokespecial 34, 3) := by decide +kernel
theorem dX8_init_49 : decode cX8_init 49 = .ok (.putfield 35, 3) := by decide +kernel
theorem dX8_init_52 : decode cX8_init 52 = .ok (.aload_n 0, 1) := by decide +kernel
theorem dX8_init_53 : decode cX8_init 53 = .ok (.getfield 35, 3) := by decide +kernel
theorem dX8_init_56 : decode cX8_init 56 = .ok (.aload_n 0, 1) := by decide +kernel
theorem dX8_init_57 : decode cX8_init 57 = .ok (.getfield 28, 3) := by decide +kernel
theorem dX8_init_60 : decode cX8_init 60 = .ok (.getfield 39, 3) := by decide +kernel
theorem dX8_init_63 : decode cX8_init 63 = .ok (.invokevirtual 43, 3) := by decide +kernel
theorem dX8_init_66 : decode cX8_init 66 = .ok (.aload_n 0, 1) := by decide +kernel
theorem dX8_init_67 : decode cX8_init 67 = .ok (.new 47, 3) := by decide +kernel
theorem dX8_init_70 : decode cX8_init 70 = .ok (.dup, 1) := by decide +kernel
theorem dX8_init_71 : decode cX8_init 71 = .ok (.invokespecial 49, 3) := by decide +kernel
theorem dX8_init_74 : decode cX8_init 74 = .ok (.putfield 50, 3) := by decide +kernel
theorem dX8_init_77 : decode cX8_init 77 = .ok (.aload_n 0, 1) := by decide +kernel
theorem dX8_init_78 : decode cX8_init 78 = .ok (.iconst 2, 1) := by decide +kernel
theorem dX8_init_79 : decode cX8_init 79 = .ok (.anewarray 32, 3) := by decide +kernel
theorem dX8_init_82 : decode cX8_init 82 = .ok (.putfield 54, 3) := by decide +kernel
theorem dX8_init_85 : decode cX8_init 85 = .ok (.iconst 0, 1) := by decide +kernel
theorem dX8_init_86 : decode cX8_init 86 = .ok (.istore_n 1, 1) := by decide +kernel
theorem dX8_init_87 : decode cX8_init 87 = .ok (.iload_n 1, 1) := by decide +kernel
theorem dX8_init_88 : decode cX8_init 88 = .ok (.iconst 2, 1) := by decide +kernel
theorem dX8_init_89 : decode cX8_init 89 = .ok (.if_icmp .ge 22, 3) := by decide +kernel
theorem dX8_init_92 : decode cX8_init 92 = .ok (.aload_n 0, 1) := by decide +kernel
theorem dX8_init_93 : decode cX8_init 93 = .ok (.getfield 54, 3) := by decide +kernel
theorem dX8_init_96 : decode cX8_init 96 = .ok (.iload_n 1, 1) := by decide +kernel
theorem dX8_init_97 : decode cX8_init 97 = .ok (.new 32, 3) := by decide +kernel
theorem dX8_init_100 : decode cX8_init 100 = .ok (.dup, 1) := by decide +kernel
theorem dX8_init_101 : decode cX8_init 101 = .ok (.invokespecial 34, 3) := by decide +kernel
theorem dX8_init_104 : decode cX8_init 104 = .ok (.aastore, 1) := by decide +kernel
theorem dX8_init_105 : decode cX8_init 105 = .ok (.iinc 1 1, 3) := by decide +kernel
theorem dX8_init_108 : decode cX8_init 108 = .ok (.goto (-21), 3) := by decide +kernel
theorem dX8_init_111 : decode cX8_init 111 = .ok (.aload_n 0, 1) := by decide +kernel
theorem dX8_init_112 : decode cX8_init 112 = .ok (.iconst 2, 1) := by decide +kernel
theorem dX8_init_113 : decode cX8_init 113 = .ok (.newarray .boolean, 2) := by decide +kernel
theorem dX8_init_115 : decode cX8_init 115 = .ok (.putfield 58, 3) := by decide +kernel
theorem dX8_init_118 : decode cX8_init 118 = .ok (.aload_n 0, 1) := by decide +kernel
theorem dX8_init_119 : decode cX8_init 119 = .ok (.new 62, 3) := by decide +kernel
theorem dX8_init_122 : decode cX8_init 122 = .ok (.dup, 1) := by decide +kernel
theorem dX8_init_123 : decode cX8_init 123 = .ok (.invokespecial 64, 3) := by decide +kernel
theorem dX8_init_126 : decode cX8_init 126 = .ok (.putfield 65, 3) := by decide +kernel
theorem dX8_init_129 : decode cX8_init 129 = .ok (.aload_n 0, 1) := by decide +kernel
theorem dX8_init_130 : decode cX8_init 130 = .ok (.new 69, 3) := by decide +kernel
theorem dX8_init_133 : decode cX8_init 133 = .ok (.dup, 1) := by decide +kernel
theorem dX8_init_134 : decode cX8_init 134 = .ok (.aload_n 0, 1) := by decide +kernel
theorem dX8_init_135 : decode cX8_init 135 = .ok (.getfield 28, 3) := by decide +kernel
theorem dX8_init_138 : decode cX8_init 138 = .ok (.invokespecial 71, 3) := by decide +kernel
theorem dX8_init_141 : decode cX8_init 141 = .ok (.putfield 74, 3) := by decide +kernel
theorem dX8_init_144 : decode cX8_init 144 = .ok (.return_, 1) := by decide +kernel
theorem dX8_type_0 : decode cX8_type 0 = .ok (.iload_n 1, 1) := by decide +kernel
theorem dX8_type_1 : decode cX8_type 1 = .ok (.ifCond .lt 10, 3) := by decide +kernel
theorem dX8_type_4 : decode cX8_type 4 = .ok (.iload_n 1, 1) := by decide +kernel
theorem dX8_type_5 : decode cX8_type 5 = .ok (.sipush 255, 3) := by decide +kernel
theorem dX8_type_8 : decode cX8_type 8 = .ok (.if_icmp .le 5, 3) := by decide +kernel
theorem dX8_type_11 : decode cX8_type 11 = .ok (.iconst (-1), 1) := by decide +kernel
theorem dX8_type_12 : decode cX8_type 12 = .ok (.ireturn, 1) := by decide +kernel
theorem dX8_type_13 : decode cX8_type 13 = .ok (.aload_n 0, 1) := by decide +kernel
theorem dX8_type_14 : decode cX8_type 14 = .ok (.getfield 10, 3) := by decide +kernel
theorem dX8_type_17 : decode cX8_type 17 = .ok (.getfield 78, 3) := by decide +kernel
theorem dX8_type_20 : decode cX8_type 20 = .ok (.bipush 120, 2) := by decide +kernel
theorem dX8_type_22 : decode cX8_type 22 = .ok (.if_icmp .lt 6, 3) := by decide +kernel
theorem dX8_type_25 : decode cX8_type 25 = .ok (.bipush (-3), 2) := by decide +kernel
theorem dX8_type_27 : decode cX8_type 27 = .ok (.ireturn, 1) := by decide +kernel
theorem dX8_type_28 : decode cX8_type 28 = .ok (.aload_n 0, 1) := by decide +kernel
theorem dX8_type_29 : decode cX8_type 29 = .ok (.getfield 10, 3) := by decide +kernel
theorem dX8_type_32 : decode cX8_type 32 = .ok (.getfield 81, 3) := by decide +kernel
theorem dX8_type_35 : decode cX8_type 35 = .ok (.aload_n 0, 1) := by decide +kernel
theorem dX8_type_36 : decode cX8_type 36 = .ok (.getfield 10, 3) := by decide +kernel
theorem dX8_type_39 : decode cX8_type 39 = .ok (.getfield 78, 3) := by decide +kernel
theorem dX8_type_42 : decode cX8_type 42 = .ok (.iload_n 1, 1) := by decide +kernel
theorem dX8_type_43 : decode cX8_type 43 = .ok (.iastore, 1) := by decide +kernel
theorem dX8_type_44 : decode cX8_type 44 = .ok (.aload_n 0, 1) := by decide +kernel
theorem dX8_type_45 : decode cX8_type 45 = .ok (.getfield 10, 3) := by decide +kernel
theorem dX8_type_48 : decode cX8_type 48 = .ok (.dup, 1) := by decide +kernel
theorem dX8_type_49 : decode cX8_type 49 = .ok (.getfield 78, 3) := by decide +kernel
theorem dX8_type_52 : decode cX8_type 52 = .ok (.iconst 1, 1) := by decide +kernel
theorem dX8_type_53 : decode cX8_type 53 = .ok (.iadd, 1) := by decide +kernel
theorem dX8_type_54 : decode cX8_type 54 = .ok (.putfield 78, 3) := by decide +kernel
theorem dX8_type_57 : decode cX8_type 57 = .ok (.aload_n 0, 1) := by decide +kernel
theorem dX8_type_58 : decode cX8_type 58 = .ok (.getfield 10, 3) := by decide +kernel
theorem dX8_type_61 : decode cX8_type 61 = .ok (.getfield 78, 3) := by decide +kernel
theorem dX8_type_64 : decode cX8_type 64 = .ok (.ireturn, 1) := by decide +kernel
theorem dX8_clear_0 : decode cX8_clear 0 = .ok (.aload_n 0, 1) := by decide +kernel
theorem dX8_clear_1 : decode cX8_clear 1 = .ok (.getfield 10, 3) := by decide +kernel
theorem dX8_clear_4 : decode cX8_clear 4 = .ok (.getfield 78, 3) := by decide +kernel
theorem dX8_clear_7 : decode cX8_clear 7 = .ok (.istore_n 1, 1) := by decide +kernel
theorem dX8_clear_8 : decode cX8_clear 8 = .ok (.aload_n 0, 1) := by decide +kernel
theorem dX8_clear_9 : decode cX8_clear 9 = .ok (.getfield 10, 3) := by decide +kernel
theorem dX8_clear_12 : decode cX8_clear 12 = .ok (.iconst 0, 1) := by decide +kernel
theorem dX8_clear_13 : decode cX8_clear 13 = .ok (.putfield 78, 3) := by decide +kernel
theorem dX8_clear_16 : decode cX8_clear 16 = .ok (.iload_n 1, 1) := by decide +kernel
theorem dX8_clear_17 : decode cX8_clear 17 = .ok (.ireturn, 1) := by decide +kernel
theorem dX8_book_0 : decode cX8_book 0 = .ok (.aload_n 0, 1) := by decide +kernel
theorem dX8_book_1 : decode cX8_book 1 = .ok (.getfield 21, 3) := by decide +kernel
theorem dX8_book_4 : decode cX8_book 4 = .ok (.invokevirtual 85, 3) := by decide +kernel
theorem dX8_book_7 : decode cX8_book 7 = .ok (.istore_n 1, 1) := by decide +kernel
theorem dX8_book_8 : decode cX8_book 8 = .ok (.iload_n 1, 1) := by decide +kernel
theorem dX8_book_9 : decode cX8_book 9 = .ok (.ifCond .ge 5, 3) := by decide +kernel
theorem dX8_book_12 : decode cX8_book 12 = .ok (.iload_n 1, 1) := by decide +kernel
theorem dX8_book_13 : decode cX8_book 13 = .ok (.ireturn, 1) := by decide +kernel
theorem dX8_book_14 : decode cX8_book 14 = .ok (.aload_n 0, 1) := by decide +kernel
theorem dX8_book_15 : decode cX8_book 15 = .ok (.getfield 28, 3) := by decide +kernel
theorem dX8_book_18 : decode cX8_book 18 = .ok (.aload_n 0, 1) := by decide +kernel
theorem dX8_book_19 : decode cX8_book 19 = .ok (.getfield 21, 3) := by decide +kernel
theorem dX8_book_22 : decode cX8_book 22 = .ok (.getfield 89, 3) := by decide +kernel
theorem dX8_book_25 : decode cX8_book 25 = .ok (.invokevirtual 92, 3) := by decide +kernel
theorem dX8_book_28 : decode cX8_book 28 = .ok (.aload_n 0, 1) := by decide +kernel
theorem dX8_book_29 : decode cX8_book 29 = .ok (.getfield 10, 3) := by decide +kernel
theorem dX8_book_32 : decode cX8_book 32 = .ok (.iconst 0, 1) := by decide +kernel
theorem dX8_book_33 : decode cX8_book 33 = .ok (.putfield 78, 3) := by decide +kernel
theorem dX8_book_36 : decode cX8_book 36 = .ok (.aload_n 0, 1) := by decide +kernel
theorem dX8_book_37 : decode cX8_book 37 = .ok (.getfield 35, 3) := by decide +kernel
theorem dX8_book_40 : decode cX8_book 40 = .ok (.aload_n 0, 1) := by decide +kernel
theorem dX8_book_41 : decode cX8_book 41 = .ok (.getfield 28, 3) := by decide +kernel
theorem dX8_book_44 : decode cX8_book 44 = .ok (.getfield 39, 3) := by decide +kernel
theorem dX8_book_47 : decode cX8_book 47 = .ok (.invokevirtual 43, 3) := by decide +kernel
theorem dX8_book_50 : decode cX8_book 50 = .ok (.aload_n 0, 1) := by decide +kernel
theorem dX8_book_51 : decode cX8_book 51 = .ok (.getfield 50, 3) := by decide +kernel
theorem dX8_book_54 : decode cX8_book 54 = .ok (.iconst 0, 1) := by decide +kernel
theorem dX8_book_55 : decode cX8_book 55 = .ok (.putfield 95, 3) := by decide +kernel
theorem dX8_book_58 : decode cX8_book 58 = .ok (.aload_n 0, 1) := by decide +kernel
theorem dX8_book_59 : decode cX8_book 59 = .ok (.getfield 65, 3) := by decide +kernel
theorem dX8_book_62 : decode cX8_book 62 = .ok (.iconst 0, 1) := by decide +kernel
theorem dX8_book_63 : decode cX8_book 63 = .ok (.putfield 98, 3) := by decide +kernel
theorem dX8_book_66 : decode cX8_book 66 = .ok (.iconst 0, 1) := by decide +kernel
theorem dX8_book_67 : decode cX8_book 67 = .ok (.istore_n 2, 1) := by decide +kernel
theorem dX8_book_68 : decode cX8_book 68 = .ok (.iload_n 2, 1) := by decide +kernel
theorem dX8_book_69 : decode cX8_book 69 = .ok (.iconst 2, 1) := by decide +kernel
theorem dX8_book_70 : decode cX8_book 70 = .ok (.if_icmp .ge 16, 3) := by decide +kernel
theorem dX8_book_73 : decode cX8_book 73 = .ok (.aload_n 0, 1) := by decide +kernel
theorem dX8_book_74 : decode cX8_book 74 = .ok (.getfield 58, 3) := by decide +kernel
theorem dX8_book_77 : decode cX8_book 77 = .ok (.iload_n 2, 1) := by decide +kernel
theorem dX8_book_78 : decode cX8_book 78 = .ok (.iconst 0, 1) := by decide +kernel
theorem dX8_book_79 : decode cX8_book 79 = .ok (.bastore, 1) := by decide +kernel
theorem dX8_book_80 : decode cX8_book 80 = .ok (.iinc 2 1, 3) := by decide +kernel
theorem dX8_book_83 : decode cX8_book 83 = .ok (.goto (-15), 3) := by decide +kernel
theorem dX8_book_86 : decode cX8_book 86 = .ok (.iload_n 1, 1) := by decide +kernel
theorem dX8_book_87 : decode cX8_book 87 = .ok (.ireturn, 1) := by decide +kernel
theorem dX8_flag_0 : decode cX8_flag 0 = .ok (.iload_n 1, 1) := by decide +kernel
theorem dX8_flag_1 : decode cX8_flag 1 = .ok (.ifCond .lt 18, 3) := by decide +kernel
theorem dX8_flag_4 : decode cX8_flag 4 = .ok (.iload_n 1, 1) := by decide +kernel
theorem dX8_flag_5 : decode cX8_flag 5 = .ok (.bipush 8, 2) := by decide +kernel
theorem dX8_flag_7 : decode cX8_flag 7 = .ok (.if_icmp .ge 12, 3) := by decide +kernel
theorem dX8_flag_10 : decode cX8_flag 10 = .ok (.iload_n 2, 1) := by decide +kernel
theorem dX8_flag_11 : decode cX8_flag 11 = .ok (.ifCond .lt 8, 3) := by decide +kernel
theorem dX8_flag_14 : decode cX8_flag 14 = .ok (.iload_n 2, 1) := by decide +kernel
theorem dX8_flag_15 : decode cX8_flag 15 = .ok (.iconst 1, 1) := by decide +kernel
theorem dX8_flag_16 : decode cX8_flag 16 = .ok (.if_icmp .le 5, 3) := by decide +kernel
theorem dX8_flag_19 : decode cX8_flag 19 = .ok (.iconst (-1), 1) := by decide +kernel
theorem dX8_flag_20 : decode cX8_flag 20 = .ok (.ireturn, 1) := by decide +kernel
theorem dX8_flag_21 : decode cX8_flag 21 = .ok (.iload_n 2, 1) := by decide +kernel
theorem dX8_flag_22 : decode cX8_flag 22 = .ok (.ifCond .ne 15, 3) := by decide +kernel
theorem dX8_flag_25 : decode cX8_flag 25 = .ok (.aload_n 0, 1) := by decide +kernel
theorem dX8_flag_26 : decode cX8_flag 26 = .ok (.getfield 28, 3) := by decide +kernel
theorem dX8_flag_29 : decode cX8_flag 29 = .ok (.getfield 99, 3) := by decide +kernel
theorem dX8_flag_32 : decode cX8_flag 32 = .ok (.iload_n 1, 1) := by decide +kernel
theorem dX8_flag_33 : decode cX8_flag 33 = .ok (.iaload, 1) := by decide +kernel
theorem dX8_flag_34 : decode cX8_flag 34 = .ok (.goto 12, 3) := by decide +kernel
theorem dX8_flag_37 : decode cX8_flag 37 = .ok (.aload_n 0, 1) := by decide +kernel
theorem dX8_flag_38 : decode cX8_flag 38 = .ok (.getfield 28, 3) := by decide +kernel
theorem dX8_flag_41 : decode cX8_flag 41 = .ok (.getfield 102, 3) := by decide +kernel
theorem dX8_flag_44 : decode cX8_flag 44 = .ok (.iload_n 1, 1) := by decide +kernel
theorem dX8_flag_45 : decode cX8_flag 45 = .ok (.iaload, 1) := by decide +kernel
theorem dX8_flag_46 : decode cX8_flag 46 = .ok (.ireturn, 1) := by decide +kernel
theorem dX8_code_0 : decode cX8_code 0 = .ok (.aload_n 0, 1) := by decide +kernel
theorem dX8_code_1 : decode cX8_code 1 = .ok (.getfield 28, 3) := by decide +kernel
theorem dX8_code_4 : decode cX8_code 4 = .ok (.iload_n 1, 1) := by decide +kernel
theorem dX8_code_5 : decode cX8_code 5 = .ok (.invokevirtual 105, 3) := by decide +kernel
theorem dX8_code_8 : decode cX8_code 8 = .ok (.ifCond .eq 8, 3) := by decide +kernel
theorem dX8_code_11 : decode cX8_code 11 = .ok (.iload_n 2, 1) := by decide +kernel
theorem dX8_code_12 : decode cX8_code 12 = .ok (.iconst (-1), 1) := by decide +kernel
theorem dX8_code_13 : decode cX8_code 13 = .ok (.if_icmp .ge 5, 3) := by decide +kernel
theorem dX8_code_16 : decode cX8_code 16 = .ok (.iconst (-1), 1) := by decide +kernel
theorem dX8_code_17 : decode cX8_code 17 = .ok (.ireturn, 1) := by decide +kernel
theorem dX8_code_18 : decode cX8_code 18 = .ok (.iload_n 2, 1) := by decide +kernel
theorem dX8_code_19 : decode cX8_code 19 = .ok (.iconst (-1), 1) := by decide +kernel
theorem dX8_code_20 : decode cX8_code 20 = .ok (.if_icmp .ne 12, 3) := by decide +kernel
theorem dX8_code_23 : decode cX8_code 23 = .ok (.aload_n 0, 1) := by decide +kernel
theorem dX8_code_24 : decode cX8_code 24 = .ok (.getfield 28, 3) := by decide +kernel
theorem dX8_code_27 : decode cX8_code 27 = .ok (.iload_n 1, 1) := by decide +kernel
theorem dX8_code_28 : decode cX8_code 28 = .ok (.invokevirtual 109, 3) := by decide +kernel
theorem dX8_code_31 : decode cX8_code 31 = .ok (.ireturn, 1) := by decide +kernel
theorem dX8_code_32 : decode cX8_code 32 = .ok (.iload_n 2, 1) := by decide +kernel
theorem dX8_code_33 : decode cX8_code 33 = .ok (.aload_n 0, 1) := by decide +kernel
theorem dX8_code_34 : decode cX8_code 34 = .ok (.getfield 28, 3) := by decide +kernel
theorem dX8_code_37 : decode cX8_code 37 = .ok (.iload_n 1, 1) := by decide +kernel
theorem dX8_code_38 : decode cX8_code 38 = .ok (.invokevirtual 109, 3) := by decide +kernel
theorem dX8_code_41 : decode cX8_code 41 = .ok (.if_icmp .ge 15, 3) := by decide +kernel
theorem dX8_code_44 : decode cX8_code 44 = .ok (.aload_n 0, 1) := by decide +kernel
theorem dX8_code_45 : decode cX8_code 45 = .ok (.getfield 28, 3) := by decide +kernel
theorem dX8_code_48 : decode cX8_code 48 = .ok (.iload_n 1, 1) := by decide +kernel
theorem dX8_code_49 : decode cX8_code 49 = .ok (.iload_n 2, 1) := by decide +kernel
theorem dX8_code_50 : decode cX8_code 50 = .ok (.invokevirtual 113, 3) := by decide +kernel
theorem dX8_code_53 : decode cX8_code 53 = .ok (.goto 5, 3) := by decide +kernel
theorem dX8_code_56 : decode cX8_code 56 = .ok (.bipush (-9), 2) := by decide +kernel
theorem dX8_code_58 : decode cX8_code 58 = .ok (.ireturn, 1) := by decide +kernel
theorem dX8_sorted_0 : decode cX8_sorted 0 = .ok (.iload_n 1, 1) := by decide +kernel
theorem dX8_sorted_1 : decode cX8_sorted 1 = .ok (.ifCond .ge 5, 3) := by decide +kernel
theorem dX8_sorted_4 : decode cX8_sorted 4 = .ok (.iconst (-1), 1) := by decide +kernel
theorem dX8_sorted_5 : decode cX8_sorted 5 = .ok (.ireturn, 1) := by decide +kernel
theorem dX8_sorted_6 : decode cX8_sorted 6 = .ok (.iconst 0, 1) := by decide +kernel
theorem dX8_sorted_7 : decode cX8_sorted 7 = .ok (.istore_n 2, 1) := by decide +kernel
theorem dX8_sorted_8 : decode cX8_sorted 8 = .ok (.iload_n 2, 1) := by decide +kernel
theorem dX8_sorted_9 : decode cX8_sorted 9 = .ok (.aload_n 0, 1) := by decide +kernel
theorem dX8_sorted_10 : decode cX8_sorted 10 = .ok (.getfield 28, 3) := by decide +kernel
theorem dX8_sorted_13 : decode cX8_sorted 13 = .ok (.getfield 117, 3) := by decide +kernel
theorem dX8_sorted_16 : decode cX8_sorted 16 = .ok (.if_icmp .ge 23, 3) := by decide +kernel
theorem dX8_sorted_19 : decode cX8_sorted 19 = .ok (.aload_n 0, 1) := by decide +kernel
theorem dX8_sorted_20 : decode cX8_sorted 20 = .ok (.getfield 28, 3) := by decide +kernel
theorem dX8_sorted_23 : decode cX8_sorted 23 = .ok (.iload_n 2, 1) := by decide +kernel
theorem dX8_sorted_24 : decode cX8_sorted 24 = .ok (.invokevirtual 118, 3) := by decide +kernel
theorem dX8_sorted_27 : decode cX8_sorted 27 = .ok (.iload_n 1, 1) := by decide +kernel
theorem dX8_sorted_28 : decode cX8_sorted 28 = .ok (.if_icmp .ne 5, 3) := by decide +kernel
theorem dX8_sorted_31 : decode cX8_sorted 31 = .ok (.iload_n 2, 1) := by decide +kernel
theorem dX8_sorted_32 : decode cX8_sorted 32 = .ok (.ireturn, 1) := by decide +kernel
theorem dX8_sorted_33 : decode cX8_sorted 33 = .ok (.iinc 2 1, 3) := by decide +kernel
theorem dX8_sorted_36 : decode cX8_sorted 36 = .ok (.goto (-28), 3) := by decide +kernel
theorem dX8_sorted_39 : decode cX8_sorted 39 = .ok (.bipush (-9), 2) := by decide +kernel
theorem dX8_sorted_41 : decode cX8_sorted 41 = .ok (.ireturn, 1) := by decide +kernel
theorem dX8_first_0 : decode cX8_first 0 = .ok (.iload_n 1, 1) := by decide +kernel
theorem dX8_first_1 : decode cX8_first 1 = .ok (.ifCond .lt 9, 3) := by decide +kernel
theorem dX8_first_4 : decode cX8_first 4 = .ok (.iload_n 1, 1) := by decide +kernel
theorem dX8_first_5 : decode cX8_first 5 = .ok (.bipush 8, 2) := by decide +kernel
theorem dX8_first_7 : decode cX8_first 7 = .ok (.if_icmp .lt 5, 3) := by decide +kernel
theorem dX8_first_10 : decode cX8_first 10 = .ok (.iconst (-1), 1) := by decide +kernel
theorem dX8_first_11 : decode cX8_first 11 = .ok (.ireturn, 1) := by decide +kernel
theorem dX8_first_12 : decode cX8_first 12 = .ok (.aload_n 0, 1) := by decide +kernel
theorem dX8_first_13 : decode cX8_first 13 = .ok (.getfield 28, 3) := by decide +kernel
theorem dX8_first_16 : decode cX8_first 16 = .ok (.iload_n 1, 1) := by decide +kernel
theorem dX8_first_17 : decode cX8_first 17 = .ok (.invokevirtual 121, 3) := by decide +kernel
theorem dX8_first_20 : decode cX8_first 20 = .ok (.ireturn, 1) := by decide +kernel
theorem dX8_puts_0 : decode cX8_puts 0 = .ok (.iload_n 1, 1) := by decide +kernel
theorem dX8_puts_1 : decode cX8_puts 1 = .ok (.ifCond .lt 25, 3) := by decide +kernel
theorem dX8_puts_4 : decode cX8_puts 4 = .ok (.iload_n 1, 1) := by decide +kernel
theorem dX8_puts_5 : decode cX8_puts 5 = .ok (.aload_n 0, 1) := by decide +kernel
theorem dX8_puts_6 : decode cX8_puts 6 = .ok (.getfield 35, 3) := by decide +kernel
theorem dX8_puts_9 : decode cX8_puts 9 = .ok (.getfield 124, 3) := by decide +kernel
theorem dX8_puts_12 : decode cX8_puts 12 = .ok (.if_icmp .gt 14, 3) := by decide +kernel
theorem dX8_puts_15 : decode cX8_puts 15 = .ok (.aload_n 0, 1) := by decide +kernel
theorem dX8_puts_16 : decode cX8_puts 16 = .ok (.getfield 28, 3) := by decide +kernel
theorem dX8_puts_19 : decode cX8_puts 19 = .ok (.iload_n 2, 1) := by decide +kernel
theorem dX8_puts_20 : decode cX8_puts 20 = .ok (.invokevirtual 105, 3) := by decide +kernel
theorem dX8_puts_23 : decode cX8_puts 23 = .ok (.ifCond .ne 5, 3) := by decide +kernel
theorem dX8_puts_26 : decode cX8_puts 26 = .ok (.iconst (-1), 1) := by decide +kernel
theorem dX8_puts_27 : decode cX8_puts 27 = .ok (.ireturn, 1) := by decide +kernel
theorem dX8_puts_28 : decode cX8_puts 28 = .ok (.aload_n 0, 1) := by decide +kernel
theorem dX8_puts_29 : decode cX8_puts 29 = .ok (.getfield 35, 3) := by decide +kernel
theorem dX8_puts_32 : decode cX8_puts 32 = .ok (.getfield 124, 3) := by decide +kernel
theorem dX8_puts_35 : decode cX8_puts 35 = .ok (.bipush 8, 2) := by decide +kernel
theorem dX8_puts_37 : decode cX8_puts 37 = .ok (.if_icmp .lt 6, 3) := by decide +kernel
theorem dX8_puts_40 : decode cX8_puts 40 = .ok (.bipush (-3), 2) := by decide +kernel
theorem dX8_puts_42 : decode cX8_puts 42 = .ok (.ireturn, 1) := by decide +kernel
theorem dX8_puts_43 : decode cX8_puts 43 = .ok (.aload_n 0, 1) := by decide +kernel
theorem dX8_puts_44 : decode cX8_puts 44 = .ok (.getfield 50, 3) := by decide +kernel
theorem dX8_puts_47 : decode cX8_puts 47 = .ok (.aload_n 0, 1) := by decide +kernel
theorem dX8_puts_48 : decode cX8_puts 48 = .ok (.getfield 35, 3) := by decide +kernel
theorem dX8_puts_51 : decode cX8_puts 51 = .ok (.invokevirtual 125, 3) := by decide +kernel
theorem dX8_puts_54 : decode cX8_puts 54 = .ok (.aload_n 0, 1) := by decide +kernel
theorem dX8_puts_55 : decode cX8_puts 55 = .ok (.getfield 35, 3) := by decide +kernel
theorem dX8_puts_58 : decode cX8_puts 58 = .ok (.iload_n 1, 1) := by decide +kernel
theorem dX8_puts_59 : decode cX8_puts 59 = .ok (.iload_n 2, 1) := by decide +kernel
theorem dX8_puts_60 : decode cX8_puts 60 = .ok (.invokevirtual 129, 3) := by decide +kernel
theorem dX8_puts_63 : decode cX8_puts 63 = .ok (.aload_n 0, 1) := by decide +kernel
theorem dX8_puts_64 : decode cX8_puts 64 = .ok (.getfield 35, 3) := by decide +kernel
theorem dX8_puts_67 : decode cX8_puts 67 = .ok (.getfield 124, 3) := by decide +kernel
theorem dX8_puts_70 : decode cX8_puts 70 = .ok (.ireturn, 1) := by decide +kernel
theorem dX8_takes_0 : decode cX8_takes 0 = .ok (.aload_n 0, 1) := by decide +kernel
theorem dX8_takes_1 : decode cX8_takes 1 = .ok (.getfield 35, 3) := by decide +kernel
theorem dX8_takes_4 : decode cX8_takes 4 = .ok (.iload_n 1, 1) := by decide +kernel
theorem dX8_takes_5 : decode cX8_takes 5 = .ok (.invokevirtual 133, 3) := by decide +kernel
theorem dX8_takes_8 : decode cX8_takes 8 = .ok (.ifCond .ne 5, 3) := by decide +kernel
theorem dX8_takes_11 : decode cX8_takes 11 = .ok (.iconst (-1), 1) := by decide +kernel
theorem dX8_takes_12 : decode cX8_takes 12 = .ok (.ireturn, 1) := by decide +kernel
theorem dX8_takes_13 : decode cX8_takes 13 = .ok (.aload_n 0, 1) := by decide +kernel
theorem dX8_takes_14 : decode cX8_takes 14 = .ok (.getfield 50, 3) := by decide +kernel
theorem dX8_takes_17 : decode cX8_takes 17 = .ok (.aload_n 0, 1) := by decide +kernel
theorem dX8_takes_18 : decode cX8_takes 18 = .ok (.getfield 35, 3) := by decide +kernel
theorem dX8_takes_21 : decode cX8_takes 21 = .ok (.invokevirtual 125, 3) := by decide +kernel
theorem dX8_takes_24 : decode cX8_takes 24 = .ok (.aload_n 0, 1) := by decide +kernel
theorem dX8_takes_25 : decode cX8_takes 25 = .ok (.getfield 35, 3) := by decide +kernel
theorem dX8_takes_28 : decode cX8_takes 28 = .ok (.iload_n 1, 1) := by decide +kernel
theorem dX8_takes_29 : decode cX8_takes 29 = .ok (.invokevirtual 136, 3) := by decide +kernel
theorem dX8_takes_32 : decode cX8_takes 32 = .ok (.ireturn, 1) := by decide +kernel
theorem dX8_places_0 : decode cX8_places 0 = .ok (.iload_n 1, 1) := by decide +kernel
theorem dX8_places_1 : decode cX8_places 1 = .ok (.iconst 3, 1) := by decide +kernel
theorem dX8_places_2 : decode cX8_places 2 = .ok (.if_icmp .lt 9, 3) := by decide +kernel
theorem dX8_places_5 : decode cX8_places 5 = .ok (.iload_n 1, 1) := by decide +kernel
theorem dX8_places_6 : decode cX8_places 6 = .ok (.bipush 7, 2) := by decide +kernel
theorem dX8_places_8 : decode cX8_places 8 = .ok (.if_icmp .le 5, 3) := by decide +kernel
theorem dX8_places_11 : decode cX8_places 11 = .ok (.iconst (-1), 1) := by decide +kernel
theorem dX8_places_12 : decode cX8_places 12 = .ok (.ireturn, 1) := by decide +kernel
theorem dX8_places_13 : decode cX8_places 13 = .ok (.iload_n 1, 1) := by decide +kernel
theorem dX8_places_14 : decode cX8_places 14 = .ok (.aload_n 0, 1) := by decide +kernel
theorem dX8_places_15 : decode cX8_places 15 = .ok (.getfield 35, 3) := by decide +kernel
theorem dX8_places_18 : decode cX8_places 18 = .ok (.getfield 139, 3) := by decide +kernel
theorem dX8_places_21 : decode cX8_places 21 = .ok (.if_icmp .ne 6, 3) := by decide +kernel
theorem dX8_places_24 : decode cX8_places 24 = .ok (.bipush (-2), 2) := by decide +kernel
theorem dX8_places_26 : decode cX8_places 26 = .ok (.ireturn, 1) := by decide +kernel
theorem dX8_places_27 : decode cX8_places 27 = .ok (.aload_n 0, 1) := by decide +kernel
theorem dX8_places_28 : decode cX8_places 28 = .ok (.getfield 50, 3) := by decide +kernel
theorem dX8_places_31 : decode cX8_places 31 = .ok (.aload_n 0, 1) := by decide +kernel
theorem dX8_places_32 : decode cX8_places 32 = .ok (.getfield 35, 3) := by decide +kernel
theorem dX8_places_35 : decode cX8_places 35 = .ok (.invokevirtual 125, 3) := by decide +kernel
theorem dX8_places_38 : decode cX8_places 38 = .ok (.aload_n 0, 1) := by decide +kernel
theorem dX8_places_39 : decode cX8_places 39 = .ok (.getfield 35, 3) := by decide +kernel
theorem dX8_places_42 : decode cX8_places 42 = .ok (.getfield 139, 3) := by decide +kernel
theorem dX8_places_45 : decode cX8_places 45 = .ok (.istore_n 2, 1) := by decide +kernel
theorem dX8_places_46 : decode cX8_places 46 = .ok (.aload_n 0, 1) := by decide +kernel
theorem dX8_places_47 : decode cX8_places 47 = .ok (.getfield 35, 3) := by decide +kernel
theorem dX8_places_50 : decode cX8_places 50 = .ok (.iload_n 1, 1) := by decide +kernel
theorem dX8_places_51 : decode cX8_places 51 = .ok (.putfield 139, 3) := by decide +kernel
theorem dX8_places_54 : decode cX8_places 54 = .ok (.aload_n 0, 1) := by decide +kernel
theorem dX8_places_55 : decode cX8_places 55 = .ok (.getfield 35, 3) := by decide +kernel
theorem dX8_places_58 : decode cX8_places 58 = .ok (.invokevirtual 140, 3) := by decide +kernel
theorem dX8_places_61 : decode cX8_places 61 = .ok (.iload_n 2, 1) := by decide +kernel
theorem dX8_places_62 : decode cX8_places 62 = .ok (.ireturn, 1) := by decide +kernel
theorem dX8_sends_0 : decode cX8_sends 0 = .ok (.aload_n 0, 1) := by decide +kernel
theorem dX8_sends_1 : decode cX8_sends 1 = .ok (.getfield 74, 3) := by decide +kernel
theorem dX8_sends_4 : decode cX8_sends 4 = .ok (.aload_n 0, 1) := by decide +kernel
theorem dX8_sends_5 : decode cX8_sends 5 = .ok (.getfield 35, 3) := by decide +kernel
theorem dX8_sends_8 : decode cX8_sends 8 = .ok (.bipush (-9), 2) := by decide +kernel
theorem dX8_sends_10 : decode cX8_sends 10 = .ok (.invokevirtual 143, 3) := by decide +kernel
theorem dX8_sends_13 : decode cX8_sends 13 = .ok (.aload_n 0, 1) := by decide +kernel
theorem dX8_sends_14 : decode cX8_sends 14 = .ok (.getfield 35, 3) := by decide +kernel
theorem dX8_sends_17 : decode cX8_sends 17 = .ok (.invokevirtual 147, 3) := by decide +kernel
theorem dX8_sends_20 : decode cX8_sends 20 = .ok (.ifCond .ne 30, 3) := by decide +kernel
theorem dX8_sends_23 : decode cX8_sends 23 = .ok (.aload_n 0, 1) := by decide +kernel
theorem dX8_sends_24 : decode cX8_sends 24 = .ok (.getfield 74, 3) := by decide +kernel
theorem dX8_sends_27 : decode cX8_sends 27 = .ok (.getfield 151, 3) := by decide +kernel
theorem dX8_sends_30 : decode cX8_sends 30 = .ok (.ifCond .eq 20, 3) := by decide +kernel
theorem dX8_sends_33 : decode cX8_sends 33 = .ok (.aload_n 0, 1) := by decide +kernel
theorem dX8_sends_34 : decode cX8_sends 34 = .ok (.getfield 35, 3) := by decide +kernel
theorem dX8_sends_37 : decode cX8_sends 37 = .ok (.getfield 155, 3) := by decide +kernel
theorem dX8_sends_40 : decode cX8_sends 40 = .ok (.aload_n 0, 1) := by decide +kernel
theorem dX8_sends_41 : decode cX8_sends 41 = .ok (.getfield 74, 3) := by decide +kernel
theorem dX8_sends_44 : decode cX8_sends 44 = .ok (.getfield 158, 3) := by decide +kernel
theorem dX8_sends_47 : decode cX8_sends 47 = .ok (.if_icmp .lt 6, 3) := by decide +kernel
theorem dX8_sends_50 : decode cX8_sends 50 = .ok (.bipush (-2), 2) := by decide +kernel
theorem dX8_sends_52 : decode cX8_sends 52 = .ok (.ireturn, 1) := by decide +kernel
theorem dX8_sends_53 : decode cX8_sends 53 = .ok (.aload_n 0, 1) := by decide +kernel
theorem dX8_sends_54 : decode cX8_sends 54 = .ok (.getfield 50, 3) := by decide +kernel
theorem dX8_sends_57 : decode cX8_sends 57 = .ok (.aload_n 0, 1) := by decide +kernel
theorem dX8_sends_58 : decode cX8_sends 58 = .ok (.getfield 35, 3) := by decide +kernel
theorem dX8_sends_61 : decode cX8_sends 61 = .ok (.invokevirtual 125, 3) := by decide +kernel
theorem dX8_sends_64 : decode cX8_sends 64 = .ok (.aload_n 0, 1) := by decide +kernel
theorem dX8_sends_65 : decode cX8_sends 65 = .ok (.getfield 35, 3) := by decide +kernel
theorem dX8_sends_68 : decode cX8_sends 68 = .ok (.iconst 1, 1) := by decide +kernel
theorem dX8_sends_69 : decode cX8_sends 69 = .ok (.putfield 161, 3) := by decide +kernel
theorem dX8_sends_72 : decode cX8_sends 72 = .ok (.aload_n 0, 1) := by decide +kernel
theorem dX8_sends_73 : decode cX8_sends 73 = .ok (.getfield 35, 3) := by decide +kernel
theorem dX8_sends_76 : decode cX8_sends 76 = .ok (.getfield 155, 3) := by decide +kernel
theorem dX8_sends_79 : decode cX8_sends 79 = .ok (.ireturn, 1) := by decide +kernel
theorem dX8_answers_0 : decode cX8_answers 0 = .ok (.iload_n 1, 1) := by decide +kernel
theorem dX8_answers_1 : decode cX8_answers 1 = .ok (.ifCond .lt 8, 3) := by decide +kernel
theorem dX8_answers_4 : decode cX8_answers 4 = .ok (.iload_n 1, 1) := by decide +kernel
theorem dX8_answers_5 : decode cX8_answers 5 = .ok (.iconst 1, 1) := by decide +kernel
theorem dX8_answers_6 : decode cX8_answers 6 = .ok (.if_icmp .le 5, 3) := by decide +kernel
theorem dX8_answers_9 : decode cX8_answers 9 = .ok (.iconst (-1), 1) := by decide +kernel
theorem dX8_answers_10 : decode cX8_answers 10 = .ok (.ireturn, 1) := by decide +kernel
theorem dX8_answers_11 : decode cX8_answers 11 = .ok (.aload_n 0, 1) := by decide +kernel
theorem dX8_answers_12 : decode cX8_answers 12 = .ok (.getfield 35, 3) := by decide +kernel
theorem dX8_answers_15 : decode cX8_answers 15 = .ok (.invokevirtual 147, 3) := by decide +kernel
theorem dX8_answers_18 : decode cX8_answers 18 = .ok (.ifCond .ne 6, 3) := by decide +kernel
theorem dX8_answers_21 : decode cX8_answers 21 = .ok (.bipush (-2), 2) := by decide +kernel
theorem dX8_answers_23 : decode cX8_answers 23 = .ok (.ireturn, 1) := by decide +kernel
theorem dX8_answers_24 : decode cX8_answers 24 = .ok (.aload_n 0, 1) := by decide +kernel
theorem dX8_answers_25 : decode cX8_answers 25 = .ok (.getfield 50, 3) := by decide +kernel
theorem dX8_answers_28 : decode cX8_answers 28 = .ok (.aload_n 0, 1) := by decide +kernel
theorem dX8_answers_29 : decode cX8_answers 29 = .ok (.getfield 35, 3) := by decide +kernel
theorem dX8_answers_32 : decode cX8_answers 32 = .ok (.invokevirtual 125, 3) := by decide +kernel
theorem dX8_answers_35 : decode cX8_answers 35 = .ok (.iload_n 1, 1) := by decide +kernel
theorem dX8_answers_36 : decode cX8_answers 36 = .ok (.ifCond .ne 13, 3) := by decide +kernel
theorem dX8_answers_39 : decode cX8_answers 39 = .ok (.aload_n 0, 1) := by decide +kernel
theorem dX8_answers_40 : decode cX8_answers 40 = .ok (.getfield 35, 3) := by decide +kernel
theorem dX8_answers_43 : decode cX8_answers 43 = .ok (.invokevirtual 164, 3) := by decide +kernel
theorem dX8_answers_46 : decode cX8_answers 46 = .ok (.goto 10, 3) := by decide +kernel
theorem dX8_answers_49 : decode cX8_answers 49 = .ok (.aload_n 0, 1) := by decide +kernel
theorem dX8_answers_50 : decode cX8_answers 50 = .ok (.getfield 35, 3) := by decide +kernel
theorem dX8_answers_53 : decode cX8_answers 53 = .ok (.invokevirtual 167, 3) := by decide +kernel
theorem dX8_answers_56 : decode cX8_answers 56 = .ok (.ireturn, 1) := by decide +kernel
theorem dX8_undo_0 : decode cX8_undo 0 = .ok (.aload_n 0, 1) := by decide +kernel
theorem dX8_undo_1 : decode cX8_undo 1 = .ok (.getfield 50, 3) := by decide +kernel
theorem dX8_undo_4 : decode cX8_undo 4 = .ok (.getfield 95, 3) := by decide +kernel
theorem dX8_undo_7 : decode cX8_undo 7 = .ok (.ifCond .ne 6, 3) := by decide +kernel
theorem dX8_undo_10 : decode cX8_undo 10 = .ok (.bipush (-2), 2) := by decide +kernel
theorem dX8_undo_12 : decode cX8_undo 12 = .ok (.ireturn, 1) := by decide +kernel
theorem dX8_undo_13 : decode cX8_undo 13 = .ok (.aload_n 0, 1) := by decide +kernel
theorem dX8_undo_14 : decode cX8_undo 14 = .ok (.getfield 50, 3) := by decide +kernel
theorem dX8_undo_17 : decode cX8_undo 17 = .ok (.aload_n 0, 1) := by decide +kernel
theorem dX8_undo_18 : decode cX8_undo 18 = .ok (.getfield 35, 3) := by decide +kernel
theorem dX8_undo_21 : decode cX8_undo 21 = .ok (.invokevirtual 170, 3) := by decide +kernel
theorem dX8_undo_24 : decode cX8_undo 24 = .ok (.aload_n 0, 1) := by decide +kernel
theorem dX8_undo_25 : decode cX8_undo 25 = .ok (.getfield 50, 3) := by decide +kernel
theorem dX8_undo_28 : decode cX8_undo 28 = .ok (.getfield 95, 3) := by decide +kernel
theorem dX8_undo_31 : decode cX8_undo 31 = .ok (.ireturn, 1) := by decide +kernel
theorem dX8_message_0 : decode cX8_message 0 = .ok (.aload_n 0, 1) := by decide +kernel
theorem dX8_message_1 : decode cX8_message 1 = .ok (.getfield 35, 3) := by decide +kernel
theorem dX8_message_4 : decode cX8_message 4 = .ok (.iload_n 1, 1) := by decide +kernel
theorem dX8_message_5 : decode cX8_message 5 = .ok (.invokevirtual 133, 3) := by decide +kernel
theorem dX8_message_8 : decode cX8_message 8 = .ok (.ifCond .eq 15, 3) := by decide +kernel
theorem dX8_message_11 : decode cX8_message 11 = .ok (.aload_n 0, 1) := by decide +kernel
theorem dX8_message_12 : decode cX8_message 12 = .ok (.getfield 35, 3) := by decide +kernel
theorem dX8_message_15 : decode cX8_message 15 = .ok (.getfield 173, 3) := by decide +kernel
theorem dX8_message_18 : decode cX8_message 18 = .ok (.iload_n 1, 1) := by decide +kernel
theorem dX8_message_19 : decode cX8_message 19 = .ok (.iaload, 1) := by decide +kernel
theorem dX8_message_20 : decode cX8_message 20 = .ok (.goto 4, 3) := by decide +kernel
theorem dX8_message_23 : decode cX8_message 23 = .ok (.iconst (-1), 1) := by decide +kernel
theorem dX8_message_24 : decode cX8_message 24 = .ok (.ireturn, 1) := by decide +kernel
theorem dX8_hoist_0 : decode cX8_hoist 0 = .ok (.iload_n 1, 1) := by decide +kernel
theorem dX8_hoist_1 : decode cX8_hoist 1 = .ok (.ifCond .lt 12, 3) := by decide +kernel
theorem dX8_hoist_4 : decode cX8_hoist 4 = .ok (.iload_n 2, 1) := by decide +kernel
theorem dX8_hoist_5 : decode cX8_hoist 5 = .ok (.ifCond .lt 8, 3) := by decide +kernel
theorem dX8_hoist_8 : decode cX8_hoist 8 = .ok (.iload_n 2, 1) := by decide +kernel
theorem dX8_hoist_9 : decode cX8_hoist 9 = .ok (.iconst 3, 1) := by decide +kernel
theorem dX8_hoist_10 : decode cX8_hoist 10 = .ok (.if_icmp .le 5, 3) := by decide +kernel
theorem dX8_hoist_13 : decode cX8_hoist 13 = .ok (.iconst (-1), 1) := by decide +kernel
theorem dX8_hoist_14 : decode cX8_hoist 14 = .ok (.ireturn, 1) := by decide +kernel
theorem dX8_hoist_15 : decode cX8_hoist 15 = .ok (.aload_n 0, 1) := by decide +kernel
theorem dX8_hoist_16 : decode cX8_hoist 16 = .ok (.getfield 74, 3) := by decide +kernel
theorem dX8_hoist_19 : decode cX8_hoist 19 = .ok (.aload_n 0, 1) := by decide +kernel
theorem dX8_hoist_20 : decode cX8_hoist 20 = .ok (.getfield 35, 3) := by decide +kernel
theorem dX8_hoist_23 : decode cX8_hoist 23 = .ok (.bipush (-9), 2) := by decide +kernel
theorem dX8_hoist_25 : decode cX8_hoist 25 = .ok (.invokevirtual 143, 3) := by decide +kernel
theorem dX8_hoist_28 : decode cX8_hoist 28 = .ok (.aload_n 0, 1) := by decide +kernel
theorem dX8_hoist_29 : decode cX8_hoist 29 = .ok (.getfield 74, 3) := by decide +kernel
theorem dX8_hoist_32 : decode cX8_hoist 32 = .ok (.iload_n 1, 1) := by decide +kernel
theorem dX8_hoist_33 : decode cX8_hoist 33 = .ok (.invokevirtual 176, 3) := by decide +kernel
theorem dX8_hoist_36 : decode cX8_hoist 36 = .ok (.ifCond .ne 6, 3) := by decide +kernel
theorem dX8_hoist_39 : decode cX8_hoist 39 = .ok (.bipush (-9), 2) := by decide +kernel
theorem dX8_hoist_41 : decode cX8_hoist 41 = .ok (.ireturn, 1) := by decide +kernel
theorem dX8_hoist_42 : decode cX8_hoist 42 = .ok (.aload_n 0, 1) := by decide +kernel
theorem dX8_hoist_43 : decode cX8_hoist 43 = .ok (.getfield 74, 3) := by decide +kernel
theorem dX8_hoist_46 : decode cX8_hoist 46 = .ok (.iload_n 1, 1) := by decide +kernel
theorem dX8_hoist_47 : decode cX8_hoist 47 = .ok (.invokevirtual 177, 3) := by decide +kernel
theorem dX8_hoist_50 : decode cX8_hoist 50 = .ok (.iload_n 2, 1) := by decide +kernel
theorem dX8_hoist_51 : decode cX8_hoist 51 = .ok (.tableswitch 68 0 2 #[25, 35, 57], 25) := by decide +kernel
theorem dX8_hoist_76 : decode cX8_hoist 76 = .ok (.aload_n 0, 1) := by decide +kernel
theorem dX8_hoist_77 : decode cX8_hoist 77 = .ok (.getfield 74, 3) := by decide +kernel
theorem dX8_hoist_80 : decode cX8_hoist 80 = .ok (.getfield 180, 3) := by decide +kernel
theorem dX8_hoist_83 : decode cX8_hoist 83 = .ok (.iload_n 1, 1) := by decide +kernel
theorem dX8_hoist_84 : decode cX8_hoist 84 = .ok (.iaload, 1) := by decide +kernel
theorem dX8_hoist_85 : decode cX8_hoist 85 = .ok (.ireturn, 1) := by decide +kernel
theorem dX8_hoist_86 : decode cX8_hoist 86 = .ok (.aload_n 0, 1) := by decide +kernel
theorem dX8_hoist_87 : decode cX8_hoist 87 = .ok (.getfield 74, 3) := by decide +kernel
theorem dX8_hoist_90 : decode cX8_hoist 90 = .ok (.getfield 180, 3) := by decide +kernel
theorem dX8_hoist_93 : decode cX8_hoist 93 = .ok (.iload_n 1, 1) := by decide +kernel
theorem dX8_hoist_94 : decode cX8_hoist 94 = .ok (.iconst 1, 1) := by decide +kernel
theorem dX8_hoist_95 : decode cX8_hoist 95 = .ok (.iadd, 1) := by decide +kernel
theorem dX8_hoist_96 : decode cX8_hoist 96 = .ok (.iaload, 1) := by decide +kernel
theorem dX8_hoist_97 : decode cX8_hoist 97 = .ok (.aload_n 0, 1) := by decide +kernel
theorem dX8_hoist_98 : decode cX8_hoist 98 = .ok (.getfield 74, 3) := by decide +kernel
theorem dX8_hoist_101 : decode cX8_hoist 101 = .ok (.getfield 180, 3) := by decide +kernel
theorem dX8_hoist_104 : decode cX8_hoist 104 = .ok (.iload_n 1, 1) := by decide +kernel
theorem dX8_hoist_105 : decode cX8_hoist 105 = .ok (.iaload, 1) := by decide +kernel
theorem dX8_hoist_106 : decode cX8_hoist 106 = .ok (.isub, 1) := by decide +kernel
theorem dX8_hoist_107 : decode cX8_hoist 107 = .ok (.ireturn, 1) := by decide +kernel
theorem dX8_hoist_108 : decode cX8_hoist 108 = .ok (.aload_n 0, 1) := by decide +kernel
theorem dX8_hoist_109 : decode cX8_hoist 109 = .ok (.getfield 74, 3) := by decide +kernel
theorem dX8_hoist_112 : decode cX8_hoist 112 = .ok (.getfield 183, 3) := by decide +kernel
theorem dX8_hoist_115 : decode cX8_hoist 115 = .ok (.getfield 187, 3) := by decide +kernel
theorem dX8_hoist_118 : decode cX8_hoist 118 = .ok (.ireturn, 1) := by decide +kernel
theorem dX8_hoist_119 : decode cX8_hoist 119 = .ok (.aload_n 0, 1) := by decide +kernel
theorem dX8_hoist_120 : decode cX8_hoist 120 = .ok (.getfield 74, 3) := by decide +kernel
theorem dX8_hoist_123 : decode cX8_hoist 123 = .ok (.getfield 183, 3) := by decide +kernel
theorem dX8_hoist_126 : decode cX8_hoist 126 = .ok (.getfield 190, 3) := by decide +kernel
theorem dX8_hoist_129 : decode cX8_hoist 129 = .ok (.ireturn, 1) := by decide +kernel
theorem dX8_thing_0 : decode cX8_thing 0 = .ok (.iload_n 1, 1) := by decide +kernel
theorem dX8_thing_1 : decode cX8_thing 1 = .ok (.ifCond .lt 7, 3) := by decide +kernel
theorem dX8_thing_4 : decode cX8_thing 4 = .ok (.iload_n 2, 1) := by decide +kernel
theorem dX8_thing_5 : decode cX8_thing 5 = .ok (.ifCond .ge 5, 3) := by decide +kernel
theorem dX8_thing_8 : decode cX8_thing 8 = .ok (.iconst (-1), 1) := by decide +kernel
theorem dX8_thing_9 : decode cX8_thing 9 = .ok (.ireturn, 1) := by decide +kernel
theorem dX8_thing_10 : decode cX8_thing 10 = .ok (.aload_n 0, 1) := by decide +kernel
theorem dX8_thing_11 : decode cX8_thing 11 = .ok (.getfield 74, 3) := by decide +kernel
theorem dX8_thing_14 : decode cX8_thing 14 = .ok (.aload_n 0, 1) := by decide +kernel
theorem dX8_thing_15 : decode cX8_thing 15 = .ok (.getfield 35, 3) := by decide +kernel
theorem dX8_thing_18 : decode cX8_thing 18 = .ok (.bipush (-9), 2) := by decide +kernel
theorem dX8_thing_20 : decode cX8_thing 20 = .ok (.invokevirtual 143, 3) := by decide +kernel
theorem dX8_thing_23 : decode cX8_thing 23 = .ok (.aload_n 0, 1) := by decide +kernel
theorem dX8_thing_24 : decode cX8_thing 24 = .ok (.getfield 74, 3) := by decide +kernel
theorem dX8_thing_27 : decode cX8_thing 27 = .ok (.iload_n 1, 1) := by decide +kernel
theorem dX8_thing_28 : decode cX8_thing 28 = .ok (.invokevirtual 176, 3) := by decide +kernel
theorem dX8_thing_31 : decode cX8_thing 31 = .ok (.ifCond .ne 6, 3) := by decide +kernel
theorem dX8_thing_34 : decode cX8_thing 34 = .ok (.bipush (-9), 2) := by decide +kernel
theorem dX8_thing_36 : decode cX8_thing 36 = .ok (.ireturn, 1) := by decide +kernel
theorem dX8_thing_37 : decode cX8_thing 37 = .ok (.aload_n 0, 1) := by decide +kernel
theorem dX8_thing_38 : decode cX8_thing 38 = .ok (.getfield 74, 3) := by decide +kernel
theorem dX8_thing_41 : decode cX8_thing 41 = .ok (.iload_n 1, 1) := by decide +kernel
theorem dX8_thing_42 : decode cX8_thing 42 = .ok (.invokevirtual 177, 3) := by decide +kernel
theorem dX8_thing_45 : decode cX8_thing 45 = .ok (.iload_n 2, 1) := by decide +kernel
theorem dX8_thing_46 : decode cX8_thing 46 = .ok (.aload_n 0, 1) := by decide +kernel
theorem dX8_thing_47 : decode cX8_thing 47 = .ok (.getfield 74, 3) := by decide +kernel
theorem dX8_thing_50 : decode cX8_thing 50 = .ok (.getfield 183, 3) := by decide +kernel
theorem dX8_thing_53 : decode cX8_thing 53 = .ok (.getfield 187, 3) := by decide +kernel
theorem dX8_thing_56 : decode cX8_thing 56 = .ok (.if_icmp .ge 18, 3) := by decide +kernel
theorem dX8_thing_59 : decode cX8_thing 59 = .ok (.aload_n 0, 1) := by decide +kernel
theorem dX8_thing_60 : decode cX8_thing 60 = .ok (.getfield 74, 3) := by decide +kernel
theorem dX8_thing_63 : decode cX8_thing 63 = .ok (.getfield 183, 3) := by decide +kernel
theorem dX8_thing_66 : decode cX8_thing 66 = .ok (.getfield 193, 3) := by decide +kernel
theorem dX8_thing_69 : decode cX8_thing 69 = .ok (.iload_n 2, 1) := by decide +kernel
theorem dX8_thing_70 : decode cX8_thing 70 = .ok (.iaload, 1) := by decide +kernel
theorem dX8_thing_71 : decode cX8_thing 71 = .ok (.goto 5, 3) := by decide +kernel
theorem dX8_thing_74 : decode cX8_thing 74 = .ok (.bipush (-9), 2) := by decide +kernel
theorem dX8_thing_76 : decode cX8_thing 76 = .ok (.ireturn, 1) := by decide +kernel
theorem dX8_told_0 : decode cX8_told 0 = .ok (.aload_n 0, 1) := by decide +kernel
theorem dX8_told_1 : decode cX8_told 1 = .ok (.getfield 28, 3) := by decide +kernel
theorem dX8_told_4 : decode cX8_told 4 = .ok (.iload_n 1, 1) := by decide +kernel
theorem dX8_told_5 : decode cX8_told 5 = .ok (.invokevirtual 105, 3) := by decide +kernel
theorem dX8_told_8 : decode cX8_told 8 = .ok (.ifCond .eq 21, 3) := by decide +kernel
theorem dX8_told_11 : decode cX8_told 11 = .ok (.aload_n 0, 1) := by decide +kernel
theorem dX8_told_12 : decode cX8_told 12 = .ok (.getfield 28, 3) := by decide +kernel
theorem dX8_told_15 : decode cX8_told 15 = .ok (.iload_n 2, 1) := by decide +kernel
theorem dX8_told_16 : decode cX8_told 16 = .ok (.invokevirtual 105, 3) := by decide +kernel
theorem dX8_told_19 : decode cX8_told 19 = .ok (.ifCond .eq 10, 3) := by decide +kernel
theorem dX8_told_22 : decode cX8_told 22 = .ok (.iload_n 3, 1) := by decide +kernel
theorem dX8_told_23 : decode cX8_told 23 = .ok (.invokestatic 196, 3) := by decide +kernel
theorem dX8_told_26 : decode cX8_told 26 = .ok (.ifCond .ne 5, 3) := by decide +kernel
theorem dX8_told_29 : decode cX8_told 29 = .ok (.iconst (-1), 1) := by decide +kernel
theorem dX8_told_30 : decode cX8_told 30 = .ok (.ireturn, 1) := by decide +kernel
theorem dX8_told_31 : decode cX8_told 31 = .ok (.aload_n 0, 1) := by decide +kernel
theorem dX8_told_32 : decode cX8_told 32 = .ok (.getfield 28, 3) := by decide +kernel
theorem dX8_told_35 : decode cX8_told 35 = .ok (.iload_n 1, 1) := by decide +kernel
theorem dX8_told_36 : decode cX8_told 36 = .ok (.iload_n 2, 1) := by decide +kernel
theorem dX8_told_37 : decode cX8_told 37 = .ok (.iload_n 3, 1) := by decide +kernel
theorem dX8_told_38 : decode cX8_told 38 = .ok (.invokevirtual 199, 3) := by decide +kernel
theorem dX8_told_41 : decode cX8_told 41 = .ok (.ifCond .eq 7, 3) := by decide +kernel
theorem dX8_told_44 : decode cX8_told 44 = .ok (.iconst 1, 1) := by decide +kernel
theorem dX8_told_45 : decode cX8_told 45 = .ok (.goto 4, 3) := by decide +kernel
theorem dX8_told_48 : decode cX8_told 48 = .ok (.iconst 0, 1) := by decide +kernel
theorem dX8_told_49 : decode cX8_told 49 = .ok (.ireturn, 1) := by decide +kernel
theorem dX8_meanings_0 : decode cX8_meanings 0 = .ok (.iload_n 1, 1) := by decide +kernel
theorem dX8_meanings_1 : decode cX8_meanings 1 = .ok (.ifCond .lt 10, 3) := by decide +kernel
theorem dX8_meanings_4 : decode cX8_meanings 4 = .ok (.iload_n 2, 1) := by decide +kernel
theorem dX8_meanings_5 : decode cX8_meanings 5 = .ok (.invokestatic 196, 3) := by decide +kernel
theorem dX8_meanings_8 : decode cX8_meanings 8 = .ok (.ifCond .ne 5, 3) := by decide +kernel
theorem dX8_meanings_11 : decode cX8_meanings 11 = .ok (.iconst (-1), 1) := by decide +kernel
theorem dX8_meanings_12 : decode cX8_meanings 12 = .ok (.ireturn, 1) := by decide +kernel
theorem dX8_meanings_13 : decode cX8_meanings 13 = .ok (.aload_n 0, 1) := by decide +kernel
theorem dX8_meanings_14 : decode cX8_meanings 14 = .ok (.getfield 74, 3) := by decide +kernel
theorem dX8_meanings_17 : decode cX8_meanings 17 = .ok (.aload_n 0, 1) := by decide +kernel
theorem dX8_meanings_18 : decode cX8_meanings 18 = .ok (.getfield 35, 3) := by decide +kernel
theorem dX8_meanings_21 : decode cX8_meanings 21 = .ok (.bipush (-9), 2) := by decide +kernel
theorem dX8_meanings_23 : decode cX8_meanings 23 = .ok (.invokevirtual 143, 3) := by decide +kernel
theorem dX8_meanings_26 : decode cX8_meanings 26 = .ok (.aload_n 0, 1) := by decide +kernel
theorem dX8_meanings_27 : decode cX8_meanings 27 = .ok (.getfield 74, 3) := by decide +kernel
theorem dX8_meanings_30 : decode cX8_meanings 30 = .ok (.iload_n 1, 1) := by decide +kernel
theorem dX8_meanings_31 : decode cX8_meanings 31 = .ok (.invokevirtual 176, 3) := by decide +kernel
theorem dX8_meanings_34 : decode cX8_meanings 34 = .ok (.ifCond .eq 15, 3) := by decide +kernel
theorem dX8_meanings_37 : decode cX8_meanings 37 = .ok (.aload_n 0, 1) := by decide +kernel
theorem dX8_meanings_38 : decode cX8_meanings 38 = .ok (.getfield 74, 3) := by decide +kernel
theorem dX8_meanings_41 : decode cX8_meanings 41 = .ok (.iload_n 1, 1) := by decide +kernel
theorem dX8_meanings_42 : decode cX8_meanings 42 = .ok (.iload_n 2, 1) := by decide +kernel
theorem dX8_meanings_43 : decode cX8_meanings 43 = .ok (.invokevirtual 203, 3) := by decide +kernel
theorem dX8_meanings_46 : decode cX8_meanings 46 = .ok (.goto 5, 3) := by decide +kernel
theorem dX8_meanings_49 : decode cX8_meanings 49 = .ok (.bipush (-9), 2) := by decide +kernel
theorem dX8_meanings_51 : decode cX8_meanings 51 = .ok (.ireturn, 1) := by decide +kernel
theorem dX8_sees_0 : decode cX8_sees 0 = .ok (.iload_n 1, 1) := by decide +kernel
theorem dX8_sees_1 : decode cX8_sees 1 = .ok (.ifCond .lt 19, 3) := by decide +kernel
theorem dX8_sees_4 : decode cX8_sees 4 = .ok (.iload_n 1, 1) := by decide +kernel
theorem dX8_sees_5 : decode cX8_sees 5 = .ok (.bipush 8, 2) := by decide +kernel
theorem dX8_sees_7 : decode cX8_sees 7 = .ok (.if_icmp .ge 13, 3) := by decide +kernel
theorem dX8_sees_10 : decode cX8_sees 10 = .ok (.iload_n 2, 1) := by decide +kernel
theorem dX8_sees_11 : decode cX8_sees 11 = .ok (.ifCond .lt 9, 3) := by decide +kernel
theorem dX8_sees_14 : decode cX8_sees 14 = .ok (.iload_n 2, 1) := by decide +kernel
theorem dX8_sees_15 : decode cX8_sees 15 = .ok (.bipush 7, 2) := by decide +kernel
theorem dX8_sees_17 : decode cX8_sees 17 = .ok (.if_icmp .le 5, 3) := by decide +kernel
theorem dX8_sees_20 : decode cX8_sees 20 = .ok (.iconst (-1), 1) := by decide +kernel
theorem dX8_sees_21 : decode cX8_sees 21 = .ok (.ireturn, 1) := by decide +kernel
theorem dX8_sees_22 : decode cX8_sees 22 = .ok (.aload_n 0, 1) := by decide +kernel
theorem dX8_sees_23 : decode cX8_sees 23 = .ok (.getfield 65, 3) := by decide +kernel
theorem dX8_sees_26 : decode cX8_sees 26 = .ok (.getfield 98, 3) := by decide +kernel
theorem dX8_sees_29 : decode cX8_sees 29 = .ok (.bipush 6, 2) := by decide +kernel
theorem dX8_sees_31 : decode cX8_sees 31 = .ok (.if_icmp .lt 6, 3) := by decide +kernel
theorem dX8_sees_34 : decode cX8_sees 34 = .ok (.bipush (-3), 2) := by decide +kernel
theorem dX8_sees_36 : decode cX8_sees 36 = .ok (.ireturn, 1) := by decide +kernel
theorem dX8_sees_37 : decode cX8_sees 37 = .ok (.aload_n 0, 1) := by decide +kernel
theorem dX8_sees_38 : decode cX8_sees 38 = .ok (.getfield 65, 3) := by decide +kernel
theorem dX8_sees_41 : decode cX8_sees 41 = .ok (.iload_n 1, 1) := by decide +kernel
theorem dX8_sees_42 : decode cX8_sees 42 = .ok (.iload_n 2, 1) := by decide +kernel
theorem dX8_sees_43 : decode cX8_sees 43 = .ok (.invokevirtual 206, 3) := by decide +kernel
theorem dX8_sees_46 : decode cX8_sees 46 = .ok (.aload_n 0, 1) := by decide +kernel
theorem dX8_sees_47 : decode cX8_sees 47 = .ok (.getfield 65, 3) := by decide +kernel
theorem dX8_sees_50 : decode cX8_sees 50 = .ok (.getfield 98, 3) := by decide +kernel
theorem dX8_sees_53 : decode cX8_sees 53 = .ok (.ireturn, 1) := by decide +kernel
theorem dX8_forget_0 : decode cX8_forget 0 = .ok (.aload_n 0, 1) := by decide +kernel
theorem dX8_forget_1 : decode cX8_forget 1 = .ok (.getfield 65, 3) := by decide +kernel
theorem dX8_forget_4 : decode cX8_forget 4 = .ok (.getfield 98, 3) := by decide +kernel
theorem dX8_forget_7 : decode cX8_forget 7 = .ok (.istore_n 1, 1) := by decide +kernel
theorem dX8_forget_8 : decode cX8_forget 8 = .ok (.aload_n 0, 1) := by decide +kernel
theorem dX8_forget_9 : decode cX8_forget 9 = .ok (.getfield 65, 3) := by decide +kernel
theorem dX8_forget_12 : decode cX8_forget 12 = .ok (.iconst 0, 1) := by decide +kernel
theorem dX8_forget_13 : decode cX8_forget 13 = .ok (.putfield 98, 3) := by decide +kernel
theorem dX8_forget_16 : decode cX8_forget 16 = .ok (.iload_n 1, 1) := by decide +kernel
theorem dX8_forget_17 : decode cX8_forget 17 = .ok (.ireturn, 1) := by decide +kernel
theorem dX8_unseen_0 : decode cX8_unseen 0 = .ok (.iconst 0, 1) := by decide +kernel
theorem dX8_unseen_1 : decode cX8_unseen 1 = .ok (.istore_n 1, 1) := by decide +kernel
theorem dX8_unseen_2 : decode cX8_unseen 2 = .ok (.iconst 0, 1) := by decide +kernel
theorem dX8_unseen_3 : decode cX8_unseen 3 = .ok (.istore_n 2, 1) := by decide +kernel
theorem dX8_unseen_4 : decode cX8_unseen 4 = .ok (.iload_n 2, 1) := by decide +kernel
theorem dX8_unseen_5 : decode cX8_unseen 5 = .ok (.aload_n 0, 1) := by decide +kernel
theorem dX8_unseen_6 : decode cX8_unseen 6 = .ok (.getfield 35, 3) := by decide +kernel
theorem dX8_unseen_9 : decode cX8_unseen 9 = .ok (.getfield 124, 3) := by decide +kernel
theorem dX8_unseen_12 : decode cX8_unseen 12 = .ok (.if_icmp .ge 51, 3) := by decide +kernel
theorem dX8_unseen_15 : decode cX8_unseen 15 = .ok (.aload_n 0, 1) := by decide +kernel
theorem dX8_unseen_16 : decode cX8_unseen 16 = .ok (.getfield 74, 3) := by decide +kernel
theorem dX8_unseen_19 : decode cX8_unseen 19 = .ok (.aload_n 0, 1) := by decide +kernel
theorem dX8_unseen_20 : decode cX8_unseen 20 = .ok (.getfield 35, 3) := by decide +kernel
theorem dX8_unseen_23 : decode cX8_unseen 23 = .ok (.iload_n 2, 1) := by decide +kernel
theorem dX8_unseen_24 : decode cX8_unseen 24 = .ok (.invokevirtual 143, 3) := by decide +kernel
theorem dX8_unseen_27 : decode cX8_unseen 27 = .ok (.aload_n 0, 1) := by decide +kernel
theorem dX8_unseen_28 : decode cX8_unseen 28 = .ok (.getfield 74, 3) := by decide +kernel
theorem dX8_unseen_31 : decode cX8_unseen 31 = .ok (.getfield 151, 3) := by decide +kernel
theorem dX8_unseen_34 : decode cX8_unseen 34 = .ok (.ifCond .eq 23, 3) := by decide +kernel
theorem dX8_unseen_37 : decode cX8_unseen 37 = .ok (.aload_n 0, 1) := by decide +kernel
theorem dX8_unseen_38 : decode cX8_unseen 38 = .ok (.getfield 65, 3) := by decide +kernel
theorem dX8_unseen_41 : decode cX8_unseen 41 = .ok (.aload_n 0, 1) := by decide +kernel
theorem dX8_unseen_42 : decode cX8_unseen 42 = .ok (.getfield 74, 3) := by decide +kernel
theorem dX8_unseen_45 : decode cX8_unseen 45 = .ok (.invokevirtual 209, 3) := by decide +kernel
theorem dX8_unseen_48 : decode cX8_unseen 48 = .ok (.ifCond .eq 9, 3) := by decide +kernel
theorem dX8_unseen_51 : decode cX8_unseen 51 = .ok (.iload_n 1, 1) := by decide +kernel
theorem dX8_unseen_52 : decode cX8_unseen 52 = .ok (.iconst 1, 1) := by decide +kernel
theorem dX8_unseen_53 : decode cX8_unseen 53 = .ok (.iload_n 2, 1) := by decide +kernel
theorem dX8_unseen_54 : decode cX8_unseen 54 = .ok (.ishl, 1) := by decide +kernel
theorem dX8_unseen_55 : decode cX8_unseen 55 = .ok (.ior, 1) := by decide +kernel
theorem dX8_unseen_56 : decode cX8_unseen 56 = .ok (.istore_n 1, 1) := by decide +kernel
theorem dX8_unseen_57 : decode cX8_unseen 57 = .ok (.iinc 2 1, 3) := by decide +kernel
theorem dX8_unseen_60 : decode cX8_unseen 60 = .ok (.goto (-56), 3) := by decide +kernel
theorem dX8_unseen_63 : decode cX8_unseen 63 = .ok (.iload_n 1, 1) := by decide +kernel
theorem dX8_unseen_64 : decode cX8_unseen 64 = .ok (.ireturn, 1) := by decide +kernel
theorem dX8_keep_0 : decode cX8_keep 0 = .ok (.iload_n 1, 1) := by decide +kernel
theorem dX8_keep_1 : decode cX8_keep 1 = .ok (.ifCond .lt 8, 3) := by decide +kernel
theorem dX8_keep_4 : decode cX8_keep 4 = .ok (.iload_n 1, 1) := by decide +kernel
theorem dX8_keep_5 : decode cX8_keep 5 = .ok (.iconst 2, 1) := by decide +kernel
theorem dX8_keep_6 : decode cX8_keep 6 = .ok (.if_icmp .lt 5, 3) := by decide +kernel
theorem dX8_keep_9 : decode cX8_keep 9 = .ok (.iconst (-1), 1) := by decide +kernel
theorem dX8_keep_10 : decode cX8_keep 10 = .ok (.ireturn, 1) := by decide +kernel
theorem dX8_keep_11 : decode cX8_keep 11 = .ok (.aload_n 0, 1) := by decide +kernel
theorem dX8_keep_12 : decode cX8_keep 12 = .ok (.getfield 54, 3) := by decide +kernel
theorem dX8_keep_15 : decode cX8_keep 15 = .ok (.iload_n 1, 1) := by decide +kernel
theorem dX8_keep_16 : decode cX8_keep 16 = .ok (.aaload, 1) := by decide +kernel
theorem dX8_keep_17 : decode cX8_keep 17 = .ok (.aload_n 0, 1) := by decide +kernel
theorem dX8_keep_18 : decode cX8_keep 18 = .ok (.getfield 35, 3) := by decide +kernel
theorem dX8_keep_21 : decode cX8_keep 21 = .ok (.invokevirtual 213, 3) := by decide +kernel
theorem dX8_keep_24 : decode cX8_keep 24 = .ok (.aload_n 0, 1) := by decide +kernel
theorem dX8_keep_25 : decode cX8_keep 25 = .ok (.getfield 58, 3) := by decide +kernel
theorem dX8_keep_28 : decode cX8_keep 28 = .ok (.iload_n 1, 1) := by decide +kernel
theorem dX8_keep_29 : decode cX8_keep 29 = .ok (.iconst 1, 1) := by decide +kernel
theorem dX8_keep_30 : decode cX8_keep 30 = .ok (.bastore, 1) := by decide +kernel
theorem dX8_keep_31 : decode cX8_keep 31 = .ok (.aload_n 0, 1) := by decide +kernel
theorem dX8_keep_32 : decode cX8_keep 32 = .ok (.getfield 35, 3) := by decide +kernel
theorem dX8_keep_35 : decode cX8_keep 35 = .ok (.getfield 124, 3) := by decide +kernel
theorem dX8_keep_38 : decode cX8_keep 38 = .ok (.ireturn, 1) := by decide +kernel
theorem dX8_back_0 : decode cX8_back 0 = .ok (.iload_n 1, 1) := by decide +kernel
theorem dX8_back_1 : decode cX8_back 1 = .ok (.ifCond .lt 8, 3) := by decide +kernel
theorem dX8_back_4 : decode cX8_back 4 = .ok (.iload_n 1, 1) := by decide +kernel
theorem dX8_back_5 : decode cX8_back 5 = .ok (.iconst 2, 1) := by decide +kernel
theorem dX8_back_6 : decode cX8_back 6 = .ok (.if_icmp .lt 5, 3) := by decide +kernel
theorem dX8_back_9 : decode cX8_back 9 = .ok (.iconst (-1), 1) := by decide +kernel
theorem dX8_back_10 : decode cX8_back 10 = .ok (.ireturn, 1) := by decide +kernel
theorem dX8_back_11 : decode cX8_back 11 = .ok (.aload_n 0, 1) := by decide +kernel
theorem dX8_back_12 : decode cX8_back 12 = .ok (.getfield 58, 3) := by decide +kernel
theorem dX8_back_15 : decode cX8_back 15 = .ok (.iload_n 1, 1) := by decide +kernel
theorem dX8_back_16 : decode cX8_back 16 = .ok (.baload, 1) := by decide +kernel
theorem dX8_back_17 : decode cX8_back 17 = .ok (.ifCond .ne 6, 3) := by decide +kernel
theorem dX8_back_20 : decode cX8_back 20 = .ok (.bipush (-2), 2) := by decide +kernel
theorem dX8_back_22 : decode cX8_back 22 = .ok (.ireturn, 1) := by decide +kernel
theorem dX8_back_23 : decode cX8_back 23 = .ok (.aload_n 0, 1) := by decide +kernel
theorem dX8_back_24 : decode cX8_back 24 = .ok (.getfield 35, 3) := by decide +kernel
theorem dX8_back_27 : decode cX8_back 27 = .ok (.aload_n 0, 1) := by decide +kernel
theorem dX8_back_28 : decode cX8_back 28 = .ok (.getfield 54, 3) := by decide +kernel
theorem dX8_back_31 : decode cX8_back 31 = .ok (.iload_n 1, 1) := by decide +kernel
theorem dX8_back_32 : decode cX8_back 32 = .ok (.aaload, 1) := by decide +kernel
theorem dX8_back_33 : decode cX8_back 33 = .ok (.invokevirtual 213, 3) := by decide +kernel
theorem dX8_back_36 : decode cX8_back 36 = .ok (.aload_n 0, 1) := by decide +kernel
theorem dX8_back_37 : decode cX8_back 37 = .ok (.getfield 50, 3) := by decide +kernel
theorem dX8_back_40 : decode cX8_back 40 = .ok (.iconst 0, 1) := by decide +kernel
theorem dX8_back_41 : decode cX8_back 41 = .ok (.putfield 95, 3) := by decide +kernel
theorem dX8_back_44 : decode cX8_back 44 = .ok (.aload_n 0, 1) := by decide +kernel
theorem dX8_back_45 : decode cX8_back 45 = .ok (.getfield 35, 3) := by decide +kernel
theorem dX8_back_48 : decode cX8_back 48 = .ok (.getfield 124, 3) := by decide +kernel
theorem dX8_back_51 : decode cX8_back 51 = .ok (.ireturn, 1) := by decide +kernel
theorem dX8_count_0 : decode cX8_count 0 = .ok (.iload_n 1, 1) := by decide +kernel
theorem dX8_count_1 : decode cX8_count 1 = .ok (.tableswitch 206 0 9 #[55, 63, 71, 79, 115, 151, 174, 182, 190, 198], 55) := by decide +kernel
theorem dX8_count_56 : decode cX8_count 56 = .ok (.aload_n 0, 1) := by decide +kernel
theorem dX8_count_57 : decode cX8_count 57 = .ok (.getfield 28, 3) := by decide +kernel
theorem dX8_count_60 : decode cX8_count 60 = .ok (.getfield 117, 3) := by decide +kernel
theorem dX8_count_63 : decode cX8_count 63 = .ok (.ireturn, 1) := by decide +kernel
theorem dX8_count_64 : decode cX8_count 64 = .ok (.aload_n 0, 1) := by decide +kernel
theorem dX8_count_65 : decode cX8_count 65 = .ok (.getfield 35, 3) := by decide +kernel
theorem dX8_count_68 : decode cX8_count 68 = .ok (.getfield 124, 3) := by decide +kernel
theorem dX8_count_71 : decode cX8_count 71 = .ok (.ireturn, 1) := by decide +kernel
theorem dX8_count_72 : decode cX8_count 72 = .ok (.aload_n 0, 1) := by decide +kernel
theorem dX8_count_73 : decode cX8_count 73 = .ok (.getfield 35, 3) := by decide +kernel
theorem dX8_count_76 : decode cX8_count 76 = .ok (.getfield 139, 3) := by decide +kernel
theorem dX8_count_79 : decode cX8_count 79 = .ok (.ireturn, 1) := by decide +kernel
theorem dX8_count_80 : decode cX8_count 80 = .ok (.aload_n 0, 1) := by decide +kernel
theorem dX8_count_81 : decode cX8_count 81 = .ok (.getfield 74, 3) := by decide +kernel
theorem dX8_count_84 : decode cX8_count 84 = .ok (.aload_n 0, 1) := by decide +kernel
theorem dX8_count_85 : decode cX8_count 85 = .ok (.getfield 35, 3) := by decide +kernel
theorem dX8_count_88 : decode cX8_count 88 = .ok (.bipush (-9), 2) := by decide +kernel
theorem dX8_count_90 : decode cX8_count 90 = .ok (.invokevirtual 143, 3) := by decide +kernel
theorem dX8_count_93 : decode cX8_count 93 = .ok (.aload_n 0, 1) := by decide +kernel
theorem dX8_count_94 : decode cX8_count 94 = .ok (.getfield 74, 3) := by decide +kernel
theorem dX8_count_97 : decode cX8_count 97 = .ok (.getfield 151, 3) := by decide +kernel
theorem dX8_count_100 : decode cX8_count 100 = .ok (.ifCond .eq 13, 3) := by decide +kernel
theorem dX8_count_103 : decode cX8_count 103 = .ok (.aload_n 0, 1) := by decide +kernel
theorem dX8_count_104 : decode cX8_count 104 = .ok (.getfield 74, 3) := by decide +kernel
theorem dX8_count_107 : decode cX8_count 107 = .ok (.getfield 158, 3) := by decide +kernel
theorem dX8_count_110 : decode cX8_count 110 = .ok (.goto 5, 3) := by decide +kernel
theorem dX8_count_113 : decode cX8_count 113 = .ok (.bipush (-9), 2) := by decide +kernel
theorem dX8_count_115 : decode cX8_count 115 = .ok (.ireturn, 1) := by decide +kernel
theorem dX8_count_116 : decode cX8_count 116 = .ok (.aload_n 0, 1) := by decide +kernel
theorem dX8_count_117 : decode cX8_count 117 = .ok (.getfield 74, 3) := by decide +kernel
theorem dX8_count_120 : decode cX8_count 120 = .ok (.aload_n 0, 1) := by decide +kernel
theorem dX8_count_121 : decode cX8_count 121 = .ok (.getfield 35, 3) := by decide +kernel
theorem dX8_count_124 : decode cX8_count 124 = .ok (.bipush (-9), 2) := by decide +kernel
theorem dX8_count_126 : decode cX8_count 126 = .ok (.invokevirtual 143, 3) := by decide +kernel
theorem dX8_count_129 : decode cX8_count 129 = .ok (.aload_n 0, 1) := by decide +kernel
theorem dX8_count_130 : decode cX8_count 130 = .ok (.getfield 74, 3) := by decide +kernel
theorem dX8_count_133 : decode cX8_count 133 = .ok (.getfield 151, 3) := by decide +kernel
theorem dX8_count_136 : decode cX8_count 136 = .ok (.ifCond .eq 13, 3) := by decide +kernel
theorem dX8_count_139 : decode cX8_count 139 = .ok (.aload_n 0, 1) := by decide +kernel
theorem dX8_count_140 : decode cX8_count 140 = .ok (.getfield 74, 3) := by decide +kernel
theorem dX8_count_143 : decode cX8_count 143 = .ok (.invokevirtual 215, 3) := by decide +kernel
theorem dX8_count_146 : decode cX8_count 146 = .ok (.goto 5, 3) := by decide +kernel
theorem dX8_count_149 : decode cX8_count 149 = .ok (.bipush (-9), 2) := by decide +kernel
theorem dX8_count_151 : decode cX8_count 151 = .ok (.ireturn, 1) := by decide +kernel
theorem dX8_count_152 : decode cX8_count 152 = .ok (.aload_n 0, 1) := by decide +kernel
theorem dX8_count_153 : decode cX8_count 153 = .ok (.getfield 35, 3) := by decide +kernel
theorem dX8_count_156 : decode cX8_count 156 = .ok (.invokevirtual 147, 3) := by decide +kernel
theorem dX8_count_159 : decode cX8_count 159 = .ok (.ifCond .eq 13, 3) := by decide +kernel
theorem dX8_count_162 : decode cX8_count 162 = .ok (.aload_n 0, 1) := by decide +kernel
theorem dX8_count_163 : decode cX8_count 163 = .ok (.getfield 35, 3) := by decide +kernel
theorem dX8_count_166 : decode cX8_count 166 = .ok (.getfield 155, 3) := by decide +kernel
theorem dX8_count_169 : decode cX8_count 169 = .ok (.goto 5, 3) := by decide +kernel
theorem dX8_count_172 : decode cX8_count 172 = .ok (.bipush (-9), 2) := by decide +kernel
theorem dX8_count_174 : decode cX8_count 174 = .ok (.ireturn, 1) := by decide +kernel
theorem dX8_count_175 : decode cX8_count 175 = .ok (.aload_n 0, 1) := by decide +kernel
theorem dX8_count_176 : decode cX8_count 176 = .ok (.getfield 35, 3) := by decide +kernel
theorem dX8_count_179 : decode cX8_count 179 = .ok (.getfield 155, 3) := by decide +kernel
theorem dX8_count_182 : decode cX8_count 182 = .ok (.ireturn, 1) := by decide +kernel
theorem dX8_count_183 : decode cX8_count 183 = .ok (.aload_n 0, 1) := by decide +kernel
theorem dX8_count_184 : decode cX8_count 184 = .ok (.getfield 65, 3) := by decide +kernel
theorem dX8_count_187 : decode cX8_count 187 = .ok (.getfield 98, 3) := by decide +kernel
theorem dX8_count_190 : decode cX8_count 190 = .ok (.ireturn, 1) := by decide +kernel
theorem dX8_count_191 : decode cX8_count 191 = .ok (.aload_n 0, 1) := by decide +kernel
theorem dX8_count_192 : decode cX8_count 192 = .ok (.getfield 10, 3) := by decide +kernel
theorem dX8_count_195 : decode cX8_count 195 = .ok (.getfield 78, 3) := by decide +kernel
theorem dX8_count_198 : decode cX8_count 198 = .ok (.ireturn, 1) := by decide +kernel
theorem dX8_count_199 : decode cX8_count 199 = .ok (.aload_n 0, 1) := by decide +kernel
theorem dX8_count_200 : decode cX8_count 200 = .ok (.getfield 50, 3) := by decide +kernel
theorem dX8_count_203 : decode cX8_count 203 = .ok (.getfield 95, 3) := by decide +kernel
theorem dX8_count_206 : decode cX8_count 206 = .ok (.ireturn, 1) := by decide +kernel
theorem dX8_count_207 : decode cX8_count 207 = .ok (.iconst (-1), 1) := by decide +kernel
theorem dX8_count_208 : decode cX8_count 208 = .ok (.ireturn, 1) := by decide +kernel
theorem dX8_isDistance_0 : decode cX8_isDistance 0 = .ok (.iload_n 0, 1) := by decide +kernel
theorem dX8_isDistance_1 : decode cX8_isDistance 1 = .ok (.iconst 1, 1) := by decide +kernel
theorem dX8_isDistance_2 : decode cX8_isDistance 2 = .ok (.if_icmp .lt 13, 3) := by decide +kernel
theorem dX8_isDistance_5 : decode cX8_isDistance 5 = .ok (.iload_n 0, 1) := by decide +kernel
theorem dX8_isDistance_6 : decode cX8_isDistance 6 = .ok (.bipush 9, 2) := by decide +kernel
theorem dX8_isDistance_8 : decode cX8_isDistance 8 = .ok (.if_icmp .gt 7, 3) := by decide +kernel
theorem dX8_isDistance_11 : decode cX8_isDistance 11 = .ok (.iconst 1, 1) := by decide +kernel
theorem dX8_isDistance_12 : decode cX8_isDistance 12 = .ok (.goto 4, 3) := by decide +kernel
theorem dX8_isDistance_15 : decode cX8_isDistance 15 = .ok (.iconst 0, 1) := by decide +kernel
theorem dX8_isDistance_16 : decode cX8_isDistance 16 = .ok (.ireturn, 1) := by decide +kernel
end
section
/-! decode rows -/
theorem dX9_init_0 : decode cX9_init 0 = .ok (.aload_n 0, 1) := by decide +kernel
theorem dX9_init_1 : decode cX9_init 1 = .ok (.invokespecial 1, 3) := by decide +kernel
theorem dX9_init_4 : decode cX9_init 4 = .ok (.aload_n 0, 1) := by decide +kernel
theorem dX9_init_5 : decode cX9_init 5 = .ok (.sipush 156, 3) := by decide +kernel
theorem dX9_init_8 : decode cX9_init 8 = .ok (.newarray .int, 2) := by decide +kernel
theorem dX9_init_10 : decode cX9_init 10 = .ok (.putfield 7, 3) := by decide +kernel
theorem dX9_init_13 : decode cX9_init 13 = .ok (.aload_n 0, 1) := by decide +kernel
theorem dX9_init_14 : decode cX9_init 14 = .ok (.iconst 2, 1) := by decide +kernel
theorem dX9_init_15 : decode cX9_init 15 = .ok (.newarray .boolean, 2) := by decide +kernel
theorem dX9_init_17 : decode cX9_init 17 = .ok (.putfield 13, 3) := by decide +kernel
theorem dX9_init_20 : decode cX9_init 20 = .ok (.aload_n 0, 1) := by decide +kernel
theorem dX9_init_21 : decode cX9_init 21 = .ok (.bipush 6, 2) := by decide +kernel
theorem dX9_init_23 : decode cX9_init 23 = .ok (.newarray .int, 2) := by decide +kernel
theorem dX9_init_25 : decode cX9_init 25 = .ok (.putfield 17, 3) := by decide +kernel
theorem dX9_init_28 : decode cX9_init 28 = .ok (.aload_n 0, 1) := by decide +kernel
theorem dX9_init_29 : decode cX9_init 29 = .ok (.bipush 6, 2) := by decide +kernel
theorem dX9_init_31 : decode cX9_init 31 = .ok (.newarray .int, 2) := by decide +kernel
theorem dX9_init_33 : decode cX9_init 33 = .ok (.putfield 20, 3) := by decide +kernel
theorem dX9_init_36 : decode cX9_init 36 = .ok (.aload_n 0, 1) := by decide +kernel
theorem dX9_init_37 : decode cX9_init 37 = .ok (.bipush 120, 2) := by decide +kernel
theorem dX9_init_39 : decode cX9_init 39 = .ok (.newarray .int, 2) := by decide +kernel
theorem dX9_init_41 : decode cX9_init 41 = .ok (.putfield 23, 3) := by decide +kernel
theorem dX9_init_44 : decode cX9_init 44 = .ok (.aload_n 0, 1) := by decide +kernel
theorem dX9_init_45 : decode cX9_init 45 = .ok (.bipush 8, 2) := by decide +kernel
theorem dX9_init_47 : decode cX9_init 47 = .ok (.newarray .int, 2) := by decide +kernel
theorem dX9_init_49 : decode cX9_init 49 = .ok (.putfield 26, 3) := by decide +kernel
theorem dX9_init_52 : decode cX9_init 52 = .ok (.aload_n 0, 1) := by decide +kernel
theorem dX9_init_53 : decode cX9_init 53 = .ok (.bipush 8, 2) := by decide +kernel
theorem dX9_init_55 : decode cX9_init 55 = .ok (.newarray .int, 2) := by decide +kernel
theorem dX9_init_57 : decode cX9_init 57 = .ok (.putfield 29, 3) := by decide +kernel
theorem dX9_init_60 : decode cX9_init 60 = .ok (.aload_n 0, 1) := by decide +kernel
theorem dX9_init_61 : decode cX9_init 61 = .ok (.bipush 10, 2) := by decide +kernel
theorem dX9_init_63 : decode cX9_init 63 = .ok (.newarray .int, 2) := by decide +kernel
theorem dX9_init_65 : decode cX9_init 65 = .ok (.putfield 32, 3) := by decide +kernel
theorem dX9_init_68 : decode cX9_init 68 = .ok (.aload_n 0, 1) := by decide +kernel
theorem dX9_init_69 : decode cX9_init 69 = .ok (.bipush 40, 2) := by decide +kernel
theorem dX9_init_71 : decode cX9_init 71 = .ok (.newarray .int, 2) := by decide +kernel
theorem dX9_init_73 : decode cX9_init 73 = .ok (.putfield 35, 3) := by decide +kernel
theorem dX9_init_76 : decode cX9_init 76 = .ok (.aload_n 0, 1) := by decide +kernel
theorem dX9_init_77 : decode cX9_init 77 = .ok (.bipush 8, 2) := by decide +kernel
theorem dX9_init_79 : decode cX9_init 79 = .ok (.newarray .int, 2) := by decide +kernel
theorem dX9_init_81 : decode cX9_init 81 = .ok (.putfield 38, 3) := by decide +kernel
theorem dX9_init_84 : decode cX9_init 84 = .ok (.aload_n 0, 1) := by decide +kernel
theorem dX9_init_85 : decode cX9_init 85 = .ok (.bipush 8, 2) := by decide +kernel
theorem dX9_init_87 : decode cX9_init 87 = .ok (.newarray .int, 2) := by decide +kernel
theorem dX9_init_89 : decode cX9_init 89 = .ok (.putfield 41, 3) := by decide +kernel
theorem dX9_init_92 : decode cX9_init 92 = .ok (.aload_n 0, 1) := by decide +kernel
theorem dX9_init_93 : decode cX9_init 93 = .ok (.bipush 10, 2) := by decide +kernel
theorem dX9_init_95 : decode cX9_init 95 = .ok (.newarray .int, 2) := by decide +kernel
theorem dX9_init_97 : decode cX9_init 97 = .ok (.putfield 44, 3) := by decide +kernel
theorem dX9_init_100 : decode cX9_init 100 = .ok (.aload_n 0, 1) := by decide +kernel
theorem dX9_init_101 : decode cX9_init 101 = .ok (.bipush 40, 2) := by decide +kernel
theorem dX9_init_103 : decode cX9_init 103 = .ok (.newarray .int, 2) := by decide +kernel
theorem dX9_init_105 : decode cX9_init 105 = .ok (.putfield 47, 3) := by decide +kernel
theorem dX9_init_108 : decode cX9_init 108 = .ok (.aload_n 0, 1) := by decide +kernel
theorem dX9_init_109 : decode cX9_init 109 = .ok (.bipush 8, 2) := by decide +kernel
theorem dX9_init_111 : decode cX9_init 111 = .ok (.newarray .int, 2) := by decide +kernel
theorem dX9_init_113 : decode cX9_init 113 = .ok (.putfield 50, 3) := by decide +kernel
theorem dX9_init_116 : decode cX9_init 116 = .ok (.aload_n 0, 1) := by decide +kernel
theorem dX9_init_117 : decode cX9_init 117 = .ok (.bipush 8, 2) := by decide +kernel
theorem dX9_init_119 : decode cX9_init 119 = .ok (.newarray .int, 2) := by decide +kernel
theorem dX9_init_121 : decode cX9_init 121 = .ok (.putfield 53, 3) := by decide +kernel
theorem dX9_init_124 : decode cX9_init 124 = .ok (.aload_n 0, 1) := by decide +kernel
theorem dX9_init_125 : decode cX9_init 125 = .ok (.bipush 8, 2) := by decide +kernel
theorem dX9_init_127 : decode cX9_init 127 = .ok (.newarray .int, 2) := by decide +kernel
theorem dX9_init_129 : decode cX9_init 129 = .ok (.putfield 56, 3) := by decide +kernel
theorem dX9_init_132 : decode cX9_init 132 = .ok (.aload_n 0, 1) := by decide +kernel
theorem dX9_init_133 : decode cX9_init 133 = .ok (.bipush 9, 2) := by decide +kernel
theorem dX9_init_135 : decode cX9_init 135 = .ok (.newarray .int, 2) := by decide +kernel
theorem dX9_init_137 : decode cX9_init 137 = .ok (.putfield 59, 3) := by decide +kernel
theorem dX9_init_140 : decode cX9_init 140 = .ok (.aload_n 0, 1) := by decide +kernel
theorem dX9_init_141 : decode cX9_init 141 = .ok (.getfield 26, 3) := by decide +kernel
theorem dX9_init_144 : decode cX9_init 144 = .ok (.aload_n 0, 1) := by decide +kernel
theorem dX9_init_145 : decode cX9_init 145 = .ok (.getfield 29, 3) := by decide +kernel
theorem dX9_init_148 : decode cX9_init 148 = .ok (.invokestatic 62, 3) := by decide +kernel
theorem dX9_init_151 : decode cX9_init 151 = .ok (.aload_n 0, 1) := by decide +kernel
theorem dX9_init_152 : decode cX9_init 152 = .ok (.getfield 7, 3) := by decide +kernel
theorem dX9_init_155 : decode cX9_init 155 = .ok (.bipush 9, 2) := by decide +kernel
theorem dX9_init_157 : decode cX9_init 157 = .ok (.iconst 5, 1) := by decide +kernel
theorem dX9_init_158 : decode cX9_init 158 = .ok (.iastore, 1) := by decide +kernel
theorem dX9_init_159 : decode cX9_init 159 = .ok (.return_, 1) := by decide +kernel
theorem dX9_in_0 : decode cX9_in 0 = .ok (.lload_n 0, 1) := by decide +kernel
theorem dX9_in_1 : decode cX9_in 1 = .ok (.lload_n 2, 1) := by decide +kernel
theorem dX9_in_2 : decode cX9_in 2 = .ok (.lcmp, 1) := by decide +kernel
theorem dX9_in_3 : decode cX9_in 3 = .ok (.ifCond .lt 14, 3) := by decide +kernel
theorem dX9_in_6 : decode cX9_in 6 = .ok (.lload_n 0, 1) := by decide +kernel
theorem dX9_in_7 : decode cX9_in 7 = .ok (.lload 4, 2) := by decide +kernel
theorem dX9_in_9 : decode cX9_in 9 = .ok (.lcmp, 1) := by decide +kernel
theorem dX9_in_10 : decode cX9_in 10 = .ok (.ifCond .gt 7, 3) := by decide +kernel
theorem dX9_in_13 : decode cX9_in 13 = .ok (.iconst 1, 1) := by decide +kernel
theorem dX9_in_14 : decode cX9_in 14 = .ok (.goto 4, 3) := by decide +kernel
theorem dX9_in_17 : decode cX9_in 17 = .ok (.iconst 0, 1) := by decide +kernel
theorem dX9_in_18 : decode cX9_in 18 = .ok (.ireturn, 1) := by decide +kernel
theorem dX9_firstFlags_0 : decode cX9_firstFlags 0 = .ok (.iconst 0, 1) := by decide +kernel
theorem dX9_firstFlags_1 : decode cX9_firstFlags 1 = .ok (.istore_n 2, 1) := by decide +kernel
theorem dX9_firstFlags_2 : decode cX9_firstFlags 2 = .ok (.iload_n 2, 1) := by decide +kernel
theorem dX9_firstFlags_3 : decode cX9_firstFlags 3 = .ok (.bipush 8, 2) := by decide +kernel
theorem dX9_firstFlags_5 : decode cX9_firstFlags 5 = .ok (.if_icmp .ge 17, 3) := by decide +kernel
theorem dX9_firstFlags_8 : decode cX9_firstFlags 8 = .ok (.aload_n 0, 1) := by decide +kernel
theorem dX9_firstFlags_9 : decode cX9_firstFlags 9 = .ok (.iload_n 2, 1) := by decide +kernel
theorem dX9_firstFlags_10 : decode cX9_firstFlags 10 = .ok (.iload_n 2, 1) := by decide +kernel
theorem dX9_firstFlags_11 : decode cX9_firstFlags 11 = .ok (.iastore, 1) := by decide +kernel
theorem dX9_firstFlags_12 : decode cX9_firstFlags 12 = .ok (.aload_n 1, 1) := by decide +kernel
theorem dX9_firstFlags_13 : decode cX9_firstFlags 13 = .ok (.iload_n 2, 1) := by decide +kernel
theorem dX9_firstFlags_14 : decode cX9_firstFlags 14 = .ok (.iconst 5, 1) := by decide +kernel
theorem dX9_firstFlags_15 : decode cX9_firstFlags 15 = .ok (.iastore, 1) := by decide +kernel
theorem dX9_firstFlags_16 : decode cX9_firstFlags 16 = .ok (.iinc 2 1, 3) := by decide +kernel
theorem dX9_firstFlags_19 : decode cX9_firstFlags 19 = .ok (.goto (-17), 3) := by decide +kernel
theorem dX9_firstFlags_22 : decode cX9_firstFlags 22 = .ok (.return_, 1) := by decide +kernel
theorem dX9_copy_0 : decode cX9_copy 0 = .ok (.iconst 0, 1) := by decide +kernel
theorem dX9_copy_1 : decode cX9_copy 1 = .ok (.istore_n 3, 1) := by decide +kernel
theorem dX9_copy_2 : decode cX9_copy 2 = .ok (.iload_n 3, 1) := by decide +kernel
theorem dX9_copy_3 : decode cX9_copy 3 = .ok (.bipush 12, 2) := by decide +kernel
theorem dX9_copy_5 : decode cX9_copy 5 = .ok (.if_icmp .ge 25, 3) := by decide +kernel
theorem dX9_copy_8 : decode cX9_copy 8 = .ok (.aload_n 0, 1) := by decide +kernel
theorem dX9_copy_9 : decode cX9_copy 9 = .ok (.getfield 7, 3) := by decide +kernel
theorem dX9_copy_12 : decode cX9_copy 12 = .ok (.iload_n 2, 1) := by decide +kernel
theorem dX9_copy_13 : decode cX9_copy 13 = .ok (.iload_n 3, 1) := by decide +kernel
theorem dX9_copy_14 : decode cX9_copy 14 = .ok (.iadd, 1) := by decide +kernel
theorem dX9_copy_15 : decode cX9_copy 15 = .ok (.aload_n 0, 1) := by decide +kernel
theorem dX9_copy_16 : decode cX9_copy 16 = .ok (.getfield 7, 3) := by decide +kernel
theorem dX9_copy_19 : decode cX9_copy 19 = .ok (.iload_n 1, 1) := by decide +kernel
theorem dX9_copy_20 : decode cX9_copy 20 = .ok (.iload_n 3, 1) := by decide +kernel
theorem dX9_copy_21 : decode cX9_copy 21 = .ok (.iadd, 1) := by decide +kernel
theorem dX9_copy_22 : decode cX9_copy 22 = .ok (.iaload, 1) := by decide +kernel
theorem dX9_copy_23 : decode cX9_copy 23 = .ok (.iastore, 1) := by decide +kernel
theorem dX9_copy_24 : decode cX9_copy 24 = .ok (.iinc 3 1, 3) := by decide +kernel
theorem dX9_copy_27 : decode cX9_copy 27 = .ok (.goto (-25), 3) := by decide +kernel
theorem dX9_copy_30 : decode cX9_copy 30 = .ok (.return_, 1) := by decide +kernel
theorem dX9_minds_0 : decode cX9_minds 0 = .ok (.aload_n 0, 1) := by decide +kernel
theorem dX9_minds_1 : decode cX9_minds 1 = .ok (.getfield 66, 3) := by decide +kernel
theorem dX9_minds_4 : decode cX9_minds 4 = .ok (.bipush 10, 2) := by decide +kernel
theorem dX9_minds_6 : decode cX9_minds 6 = .ok (.if_icmp .ne 45, 3) := by decide +kernel
theorem dX9_minds_9 : decode cX9_minds 9 = .ok (.iconst 0, 1) := by decide +kernel
theorem dX9_minds_10 : decode cX9_minds 10 = .ok (.istore_n 1, 1) := by decide +kernel
theorem dX9_minds_11 : decode cX9_minds 11 = .ok (.iload_n 1, 1) := by decide +kernel
theorem dX9_minds_12 : decode cX9_minds 12 = .ok (.bipush 108, 2) := by decide +kernel
theorem dX9_minds_14 : decode cX9_minds 14 = .ok (.if_icmp .ge 27, 3) := by decide +kernel
theorem dX9_minds_17 : decode cX9_minds 17 = .ok (.aload_n 0, 1) := by decide +kernel
theorem dX9_minds_18 : decode cX9_minds 18 = .ok (.getfield 7, 3) := by decide +kernel
theorem dX9_minds_21 : decode cX9_minds 21 = .ok (.bipush 36, 2) := by decide +kernel
theorem dX9_minds_23 : decode cX9_minds 23 = .ok (.iload_n 1, 1) := by decide +kernel
theorem dX9_minds_24 : decode cX9_minds 24 = .ok (.iadd, 1) := by decide +kernel
theorem dX9_minds_25 : decode cX9_minds 25 = .ok (.aload_n 0, 1) := by decide +kernel
theorem dX9_minds_26 : decode cX9_minds 26 = .ok (.getfield 7, 3) := by decide +kernel
theorem dX9_minds_29 : decode cX9_minds 29 = .ok (.bipush 48, 2) := by decide +kernel
theorem dX9_minds_31 : decode cX9_minds 31 = .ok (.iload_n 1, 1) := by decide +kernel
theorem dX9_minds_32 : decode cX9_minds 32 = .ok (.iadd, 1) := by decide +kernel
theorem dX9_minds_33 : decode cX9_minds 33 = .ok (.iaload, 1) := by decide +kernel
theorem dX9_minds_34 : decode cX9_minds 34 = .ok (.iastore, 1) := by decide +kernel
theorem dX9_minds_35 : decode cX9_minds 35 = .ok (.iinc 1 1, 3) := by decide +kernel
theorem dX9_minds_38 : decode cX9_minds 38 = .ok (.goto (-27), 3) := by decide +kernel
theorem dX9_minds_41 : decode cX9_minds 41 = .ok (.aload_n 0, 1) := by decide +kernel
theorem dX9_minds_42 : decode cX9_minds 42 = .ok (.dup, 1) := by decide +kernel
theorem dX9_minds_43 : decode cX9_minds 43 = .ok (.getfield 66, 3) := by decide +kernel
theorem dX9_minds_46 : decode cX9_minds 46 = .ok (.iconst 1, 1) := by decide +kernel
theorem dX9_minds_47 : decode cX9_minds 47 = .ok (.isub, 1) := by decide +kernel
theorem dX9_minds_48 : decode cX9_minds 48 = .ok (.putfield 66, 3) := by decide +kernel
theorem dX9_minds_51 : decode cX9_minds 51 = .ok (.aload_n 0, 1) := by decide +kernel
theorem dX9_minds_52 : decode cX9_minds 52 = .ok (.iconst 0, 1) := by decide +kernel
theorem dX9_minds_53 : decode cX9_minds 53 = .ok (.bipush 36, 2) := by decide +kernel
theorem dX9_minds_55 : decode cX9_minds 55 = .ok (.bipush 12, 2) := by decide +kernel
theorem dX9_minds_57 : decode cX9_minds 57 = .ok (.aload_n 0, 1) := by decide +kernel
theorem dX9_minds_58 : decode cX9_minds 58 = .ok (.getfield 66, 3) := by decide +kernel
theorem dX9_minds_61 : decode cX9_minds 61 = .ok (.imul, 1) := by decide +kernel
theorem dX9_minds_62 : decode cX9_minds 62 = .ok (.iadd, 1) := by decide +kernel
theorem dX9_minds_63 : decode cX9_minds 63 = .ok (.invokevirtual 70, 3) := by decide +kernel
theorem dX9_minds_66 : decode cX9_minds 66 = .ok (.aload_n 0, 1) := by decide +kernel
theorem dX9_minds_67 : decode cX9_minds 67 = .ok (.dup, 1) := by decide +kernel
theorem dX9_minds_68 : decode cX9_minds 68 = .ok (.getfield 66, 3) := by decide +kernel
theorem dX9_minds_71 : decode cX9_minds 71 = .ok (.iconst 1, 1) := by decide +kernel
theorem dX9_minds_72 : decode cX9_minds 72 = .ok (.iadd, 1) := by decide +kernel
theorem dX9_minds_73 : decode cX9_minds 73 = .ok (.putfield 66, 3) := by decide +kernel
theorem dX9_minds_76 : decode cX9_minds 76 = .ok (.return_, 1) := by decide +kernel
theorem dX9_isDigit_0 : decode cX9_isDigit 0 = .ok (.iload_n 0, 1) := by decide +kernel
theorem dX9_isDigit_1 : decode cX9_isDigit 1 = .ok (.i2l, 1) := by decide +kernel
theorem dX9_isDigit_2 : decode cX9_isDigit 2 = .ok (.ldc2_w 74, 3) := by decide +kernel
theorem dX9_isDigit_5 : decode cX9_isDigit 5 = .ok (.ldc2_w 76, 3) := by decide +kernel
theorem dX9_isDigit_8 : decode cX9_isDigit 8 = .ok (.invokestatic 78, 3) := by decide +kernel
theorem dX9_isDigit_11 : decode cX9_isDigit 11 = .ok (.ireturn, 1) := by decide +kernel
theorem dX9_take_0 : decode cX9_take 0 = .ok (.aload_n 0, 1) := by decide +kernel
theorem dX9_take_1 : decode cX9_take 1 = .ok (.getfield 82, 3) := by decide +kernel
theorem dX9_take_4 : decode cX9_take 4 = .ok (.aload_n 0, 1) := by decide +kernel
theorem dX9_take_5 : decode cX9_take 5 = .ok (.getfield 85, 3) := by decide +kernel
theorem dX9_take_8 : decode cX9_take 8 = .ok (.if_icmp .ge 30, 3) := by decide +kernel
theorem dX9_take_11 : decode cX9_take 11 = .ok (.aload_n 0, 1) := by decide +kernel
theorem dX9_take_12 : decode cX9_take 12 = .ok (.getfield 23, 3) := by decide +kernel
theorem dX9_take_15 : decode cX9_take 15 = .ok (.aload_n 0, 1) := by decide +kernel
theorem dX9_take_16 : decode cX9_take 16 = .ok (.getfield 82, 3) := by decide +kernel
theorem dX9_take_19 : decode cX9_take 19 = .ok (.iaload, 1) := by decide +kernel
theorem dX9_take_20 : decode cX9_take 20 = .ok (.bipush 32, 2) := by decide +kernel
theorem dX9_take_22 : decode cX9_take 22 = .ok (.if_icmp .ne 16, 3) := by decide +kernel
theorem dX9_take_25 : decode cX9_take 25 = .ok (.aload_n 0, 1) := by decide +kernel
theorem dX9_take_26 : decode cX9_take 26 = .ok (.dup, 1) := by decide +kernel
theorem dX9_take_27 : decode cX9_take 27 = .ok (.getfield 82, 3) := by decide +kernel
theorem dX9_take_30 : decode cX9_take 30 = .ok (.iconst 1, 1) := by decide +kernel
theorem dX9_take_31 : decode cX9_take 31 = .ok (.iadd, 1) := by decide +kernel
theorem dX9_take_32 : decode cX9_take 32 = .ok (.putfield 82, 3) := by decide +kernel
theorem dX9_take_35 : decode cX9_take 35 = .ok (.goto (-35), 3) := by decide +kernel
theorem dX9_take_38 : decode cX9_take 38 = .ok (.aload_n 0, 1) := by decide +kernel
theorem dX9_take_39 : decode cX9_take 39 = .ok (.aload_n 0, 1) := by decide +kernel
theorem dX9_take_40 : decode cX9_take 40 = .ok (.getfield 82, 3) := by decide +kernel
theorem dX9_take_43 : decode cX9_take 43 = .ok (.putfield 88, 3) := by decide +kernel
theorem dX9_take_46 : decode cX9_take 46 = .ok (.aload_n 0, 1) := by decide +kernel
theorem dX9_take_47 : decode cX9_take 47 = .ok (.aload_n 0, 1) := by decide +kernel
theorem dX9_take_48 : decode cX9_take 48 = .ok (.getfield 82, 3) := by decide +kernel
theorem dX9_take_51 : decode cX9_take 51 = .ok (.aload_n 0, 1) := by decide +kernel
theorem dX9_take_52 : decode cX9_take 52 = .ok (.getfield 85, 3) := by decide +kernel
theorem dX9_take_55 : decode cX9_take 55 = .ok (.if_icmp .ge 15, 3) := by decide +kernel
theorem dX9_take_58 : decode cX9_take 58 = .ok (.aload_n 0, 1) := by decide +kernel
theorem dX9_take_59 : decode cX9_take 59 = .ok (.getfield 23, 3) := by decide +kernel
theorem dX9_take_62 : decode cX9_take 62 = .ok (.aload_n 0, 1) := by decide +kernel
theorem dX9_take_63 : decode cX9_take 63 = .ok (.getfield 82, 3) := by decide +kernel
theorem dX9_take_66 : decode cX9_take 66 = .ok (.iaload, 1) := by decide +kernel
theorem dX9_take_67 : decode cX9_take 67 = .ok (.goto 4, 3) := by decide +kernel
theorem dX9_take_70 : decode cX9_take 70 = .ok (.iconst (-1), 1) := by decide +kernel
theorem dX9_take_71 : decode cX9_take 71 = .ok (.putfield 91, 3) := by decide +kernel
theorem dX9_take_74 : decode cX9_take 74 = .ok (.aload_n 0, 1) := by decide +kernel
theorem dX9_take_75 : decode cX9_take 75 = .ok (.dup, 1) := by decide +kernel
theorem dX9_take_76 : decode cX9_take 76 = .ok (.getfield 82, 3) := by decide +kernel
theorem dX9_take_79 : decode cX9_take 79 = .ok (.aload_n 0, 1) := by decide +kernel
theorem dX9_take_80 : decode cX9_take 80 = .ok (.getfield 82, 3) := by decide +kernel
theorem dX9_take_83 : decode cX9_take 83 = .ok (.aload_n 0, 1) := by decide +kernel
theorem dX9_take_84 : decode cX9_take 84 = .ok (.getfield 85, 3) := by decide +kernel
theorem dX9_take_87 : decode cX9_take 87 = .ok (.if_icmp .ge 7, 3) := by decide +kernel
theorem dX9_take_90 : decode cX9_take 90 = .ok (.iconst 1, 1) := by decide +kernel
theorem dX9_take_91 : decode cX9_take 91 = .ok (.goto 4, 3) := by decide +kernel
theorem dX9_take_94 : decode cX9_take 94 = .ok (.iconst 0, 1) := by decide +kernel
theorem dX9_take_95 : decode cX9_take 95 = .ok (.iadd, 1) := by decide +kernel
theorem dX9_take_96 : decode cX9_take 96 = .ok (.putfield 82, 3) := by decide +kernel
theorem dX9_take_99 : decode cX9_take 99 = .ok (.aload_n 0, 1) := by decide +kernel
theorem dX9_take_100 : decode cX9_take 100 = .ok (.getfield 91, 3) := by decide +kernel
theorem dX9_take_103 : decode cX9_take 103 = .ok (.invokestatic 94, 3) := by decide +kernel
theorem dX9_take_106 : decode cX9_take 106 = .ok (.ifCond .eq 49, 3) := by decide +kernel
theorem dX9_take_109 : decode cX9_take 109 = .ok (.aload_n 0, 1) := by decide +kernel
theorem dX9_take_110 : decode cX9_take 110 = .ok (.getfield 82, 3) := by decide +kernel
theorem dX9_take_113 : decode cX9_take 113 = .ok (.aload_n 0, 1) := by decide +kernel
theorem dX9_take_114 : decode cX9_take 114 = .ok (.getfield 85, 3) := by decide +kernel
theorem dX9_take_117 : decode cX9_take 117 = .ok (.if_icmp .ge 38, 3) := by decide +kernel
theorem dX9_take_120 : decode cX9_take 120 = .ok (.aload_n 0, 1) := by decide +kernel
theorem dX9_take_121 : decode cX9_take 121 = .ok (.getfield 23, 3) := by decide +kernel
theorem dX9_take_124 : decode cX9_take 124 = .ok (.aload_n 0, 1) := by decide +kernel
theorem dX9_take_125 : decode cX9_take 125 = .ok (.getfield 82, 3) := by decide +kernel
theorem dX9_take_128 : decode cX9_take 128 = .ok (.iaload, 1) := by decide +kernel
theorem dX9_take_129 : decode cX9_take 129 = .ok (.invokestatic 94, 3) := by decide +kernel
theorem dX9_take_132 : decode cX9_take 132 = .ok (.ifCond .eq 23, 3) := by decide +kernel
theorem dX9_take_135 : decode cX9_take 135 = .ok (.aload_n 0, 1) := by decide +kernel
theorem dX9_take_136 : decode cX9_take 136 = .ok (.dup, 1) := by decide +kernel
theorem dX9_take_137 : decode cX9_take 137 = .ok (.getfield 82, 3) := by decide +kernel
theorem dX9_take_140 : decode cX9_take 140 = .ok (.iconst 1, 1) := by decide +kernel
theorem dX9_take_141 : decode cX9_take 141 = .ok (.iadd, 1) := by decide +kernel
theorem dX9_take_142 : decode cX9_take 142 = .ok (.putfield 82, 3) := by decide +kernel
theorem dX9_take_145 : decode cX9_take 145 = .ok (.aload_n 0, 1) := by decide +kernel
theorem dX9_take_146 : decode cX9_take 146 = .ok (.sipush 1000, 3) := by decide +kernel
theorem dX9_take_149 : decode cX9_take 149 = .ok (.putfield 91, 3) := by decide +kernel
theorem dX9_take_152 : decode cX9_take 152 = .ok (.goto (-43), 3) := by decide +kernel
theorem dX9_take_155 : decode cX9_take 155 = .ok (.return_, 1) := by decide +kernel
theorem dX9_isFlag_0 : decode cX9_isFlag 0 = .ok (.aload_n 0, 1) := by decide +kernel
theorem dX9_isFlag_1 : decode cX9_isFlag 1 = .ok (.getfield 91, 3) := by decide +kernel
theorem dX9_isFlag_4 : decode cX9_isFlag 4 = .ok (.i2l, 1) := by decide +kernel
theorem dX9_isFlag_5 : decode cX9_isFlag 5 = .ok (.ldc2_w 98, 3) := by decide +kernel
theorem dX9_isFlag_8 : decode cX9_isFlag 8 = .ok (.ldc2_w 100, 3) := by decide +kernel
theorem dX9_isFlag_11 : decode cX9_isFlag 11 = .ok (.invokestatic 78, 3) := by decide +kernel
theorem dX9_isFlag_14 : decode cX9_isFlag 14 = .ok (.ireturn, 1) := by decide +kernel
theorem dX9_isNumber_0 : decode cX9_isNumber 0 = .ok (.aload_n 0, 1) := by decide +kernel
theorem dX9_isNumber_1 : decode cX9_isNumber 1 = .ok (.getfield 91, 3) := by decide +kernel
theorem dX9_isNumber_4 : decode cX9_isNumber 4 = .ok (.i2l, 1) := by decide +kernel
theorem dX9_isNumber_5 : decode cX9_isNumber 5 = .ok (.bipush 48, 2) := by decide +kernel
theorem dX9_isNumber_7 : decode cX9_isNumber 7 = .ok (.iload_n 1, 1) := by decide +kernel
theorem dX9_isNumber_8 : decode cX9_isNumber 8 = .ok (.iadd, 1) := by decide +kernel
theorem dX9_isNumber_9 : decode cX9_isNumber 9 = .ok (.i2l, 1) := by decide +kernel
theorem dX9_isNumber_10 : decode cX9_isNumber 10 = .ok (.bipush 48, 2) := by decide +kernel
theorem dX9_isNumber_12 : decode cX9_isNumber 12 = .ok (.iload_n 2, 1) := by decide +kernel
theorem dX9_isNumber_13 : decode cX9_isNumber 13 = .ok (.iadd, 1) := by decide +kernel
theorem dX9_isNumber_14 : decode cX9_isNumber 14 = .ok (.i2l, 1) := by decide +kernel
theorem dX9_isNumber_15 : decode cX9_isNumber 15 = .ok (.invokestatic 78, 3) := by decide +kernel
theorem dX9_isNumber_18 : decode cX9_isNumber 18 = .ok (.ireturn, 1) := by decide +kernel
theorem dX9_readsEnd_0 : decode cX9_readsEnd 0 = .ok (.aload_n 0, 1) := by decide +kernel
theorem dX9_readsEnd_1 : decode cX9_readsEnd 1 = .ok (.getfield 91, 3) := by decide +kernel
theorem dX9_readsEnd_4 : decode cX9_readsEnd 4 = .ok (.bipush 59, 2) := by decide +kernel
theorem dX9_readsEnd_6 : decode cX9_readsEnd 6 = .ok (.if_icmp .ne 7, 3) := by decide +kernel
theorem dX9_readsEnd_9 : decode cX9_readsEnd 9 = .ok (.iconst 1, 1) := by decide +kernel
theorem dX9_readsEnd_10 : decode cX9_readsEnd 10 = .ok (.goto 4, 3) := by decide +kernel
theorem dX9_readsEnd_13 : decode cX9_readsEnd 13 = .ok (.iconst 0, 1) := by decide +kernel
theorem dX9_readsEnd_14 : decode cX9_readsEnd 14 = .ok (.istore_n 1, 1) := by decide +kernel
theorem dX9_readsEnd_15 : decode cX9_readsEnd 15 = .ok (.iload_n 1, 1) := by decide +kernel
theorem dX9_readsEnd_16 : decode cX9_readsEnd 16 = .ok (.ifCond .eq 7, 3) := by decide +kernel
theorem dX9_readsEnd_19 : decode cX9_readsEnd 19 = .ok (.aload_n 0, 1) := by decide +kernel
theorem dX9_readsEnd_20 : decode cX9_readsEnd 20 = .ok (.invokevirtual 102, 3) := by decide +kernel
theorem dX9_readsEnd_23 : decode cX9_readsEnd 23 = .ok (.iload_n 1, 1) := by decide +kernel
theorem dX9_readsEnd_24 : decode cX9_readsEnd 24 = .ok (.ireturn, 1) := by decide +kernel
theorem dX9_readsPlaces_0 : decode cX9_readsPlaces 0 = .ok (.aload_n 0, 1) := by decide +kernel
theorem dX9_readsPlaces_1 : decode cX9_readsPlaces 1 = .ok (.getfield 105, 3) := by decide +kernel
theorem dX9_readsPlaces_4 : decode cX9_readsPlaces 4 = .ok (.ifCond .le 5, 3) := by decide +kernel
theorem dX9_readsPlaces_7 : decode cX9_readsPlaces 7 = .ok (.iconst 0, 1) := by decide +kernel
theorem dX9_readsPlaces_8 : decode cX9_readsPlaces 8 = .ok (.ireturn, 1) := by decide +kernel
theorem dX9_readsPlaces_9 : decode cX9_readsPlaces 9 = .ok (.aload_n 0, 1) := by decide +kernel
theorem dX9_readsPlaces_10 : decode cX9_readsPlaces 10 = .ok (.invokevirtual 102, 3) := by decide +kernel
theorem dX9_readsPlaces_13 : decode cX9_readsPlaces 13 = .ok (.aload_n 0, 1) := by decide +kernel
theorem dX9_readsPlaces_14 : decode cX9_readsPlaces 14 = .ok (.iconst 3, 1) := by decide +kernel
theorem dX9_readsPlaces_15 : decode cX9_readsPlaces 15 = .ok (.bipush 7, 2) := by decide +kernel
theorem dX9_readsPlaces_17 : decode cX9_readsPlaces 17 = .ok (.invokevirtual 108, 3) := by decide +kernel
theorem dX9_readsPlaces_20 : decode cX9_readsPlaces 20 = .ok (.ifCond .ne 5, 3) := by decide +kernel
theorem dX9_readsPlaces_23 : decode cX9_readsPlaces 23 = .ok (.iconst 0, 1) := by decide +kernel
theorem dX9_readsPlaces_24 : decode cX9_readsPlaces 24 = .ok (.ireturn, 1) := by decide +kernel
theorem dX9_readsPlaces_25 : decode cX9_readsPlaces 25 = .ok (.aload_n 0, 1) := by decide +kernel
theorem dX9_readsPlaces_26 : decode cX9_readsPlaces 26 = .ok (.aload_n 0, 1) := by decide +kernel
theorem dX9_readsPlaces_27 : decode cX9_readsPlaces 27 = .ok (.getfield 91, 3) := by decide +kernel
theorem dX9_readsPlaces_30 : decode cX9_readsPlaces 30 = .ok (.bipush 48, 2) := by decide +kernel
theorem dX9_readsPlaces_32 : decode cX9_readsPlaces 32 = .ok (.isub, 1) := by decide +kernel
theorem dX9_readsPlaces_33 : decode cX9_readsPlaces 33 = .ok (.putfield 105, 3) := by decide +kernel
theorem dX9_readsPlaces_36 : decode cX9_readsPlaces 36 = .ok (.aload_n 0, 1) := by decide +kernel
theorem dX9_readsPlaces_37 : decode cX9_readsPlaces 37 = .ok (.invokevirtual 102, 3) := by decide +kernel
theorem dX9_readsPlaces_40 : decode cX9_readsPlaces 40 = .ok (.aload_n 0, 1) := by decide +kernel
theorem dX9_readsPlaces_41 : decode cX9_readsPlaces 41 = .ok (.invokevirtual 112, 3) := by decide +kernel
theorem dX9_readsPlaces_44 : decode cX9_readsPlaces 44 = .ok (.ireturn, 1) := by decide +kernel
theorem dX9_readsFlag_0 : decode cX9_readsFlag 0 = .ok (.aload_n 0, 1) := by decide +kernel
theorem dX9_readsFlag_1 : decode cX9_readsFlag 1 = .ok (.invokevirtual 102, 3) := by decide +kernel
theorem dX9_readsFlag_4 : decode cX9_readsFlag 4 = .ok (.aload_n 0, 1) := by decide +kernel
theorem dX9_readsFlag_5 : decode cX9_readsFlag 5 = .ok (.invokevirtual 116, 3) := by decide +kernel
theorem dX9_readsFlag_8 : decode cX9_readsFlag 8 = .ok (.ifCond .ne 5, 3) := by decide +kernel
theorem dX9_readsFlag_11 : decode cX9_readsFlag 11 = .ok (.iconst 0, 1) := by decide +kernel
theorem dX9_readsFlag_12 : decode cX9_readsFlag 12 = .ok (.ireturn, 1) := by decide +kernel
theorem dX9_readsFlag_13 : decode cX9_readsFlag 13 = .ok (.aload_n 0, 1) := by decide +kernel
theorem dX9_readsFlag_14 : decode cX9_readsFlag 14 = .ok (.getfield 91, 3) := by decide +kernel
theorem dX9_readsFlag_17 : decode cX9_readsFlag 17 = .ok (.bipush 97, 2) := by decide +kernel
theorem dX9_readsFlag_19 : decode cX9_readsFlag 19 = .ok (.isub, 1) := by decide +kernel
theorem dX9_readsFlag_20 : decode cX9_readsFlag 20 = .ok (.istore_n 1, 1) := by decide +kernel
theorem dX9_readsFlag_21 : decode cX9_readsFlag 21 = .ok (.aload_n 0, 1) := by decide +kernel
theorem dX9_readsFlag_22 : decode cX9_readsFlag 22 = .ok (.invokevirtual 102, 3) := by decide +kernel
theorem dX9_readsFlag_25 : decode cX9_readsFlag 25 = .ok (.aload_n 0, 1) := by decide +kernel
theorem dX9_readsFlag_26 : decode cX9_readsFlag 26 = .ok (.iconst 0, 1) := by decide +kernel
theorem dX9_readsFlag_27 : decode cX9_readsFlag 27 = .ok (.bipush 7, 2) := by decide +kernel
theorem dX9_readsFlag_29 : decode cX9_readsFlag 29 = .ok (.invokevirtual 108, 3) := by decide +kernel
theorem dX9_readsFlag_32 : decode cX9_readsFlag 32 = .ok (.ifCond .ne 5, 3) := by decide +kernel
theorem dX9_readsFlag_35 : decode cX9_readsFlag 35 = .ok (.iconst 0, 1) := by decide +kernel
theorem dX9_readsFlag_36 : decode cX9_readsFlag 36 = .ok (.ireturn, 1) := by decide +kernel
theorem dX9_readsFlag_37 : decode cX9_readsFlag 37 = .ok (.aload_n 0, 1) := by decide +kernel
theorem dX9_readsFlag_38 : decode cX9_readsFlag 38 = .ok (.getfield 38, 3) := by decide +kernel
theorem dX9_readsFlag_41 : decode cX9_readsFlag 41 = .ok (.iload_n 1, 1) := by decide +kernel
theorem dX9_readsFlag_42 : decode cX9_readsFlag 42 = .ok (.aload_n 0, 1) := by decide +kernel
theorem dX9_readsFlag_43 : decode cX9_readsFlag 43 = .ok (.getfield 91, 3) := by decide +kernel
theorem dX9_readsFlag_46 : decode cX9_readsFlag 46 = .ok (.bipush 48, 2) := by decide +kernel
theorem dX9_readsFlag_48 : decode cX9_readsFlag 48 = .ok (.isub, 1) := by decide +kernel
theorem dX9_readsFlag_49 : decode cX9_readsFlag 49 = .ok (.iastore, 1) := by decide +kernel
theorem dX9_readsFlag_50 : decode cX9_readsFlag 50 = .ok (.aload_n 0, 1) := by decide +kernel
theorem dX9_readsFlag_51 : decode cX9_readsFlag 51 = .ok (.invokevirtual 102, 3) := by decide +kernel
theorem dX9_readsFlag_54 : decode cX9_readsFlag 54 = .ok (.aload_n 0, 1) := by decide +kernel
theorem dX9_readsFlag_55 : decode cX9_readsFlag 55 = .ok (.iconst 1, 1) := by decide +kernel
theorem dX9_readsFlag_56 : decode cX9_readsFlag 56 = .ok (.bipush 9, 2) := by decide +kernel
theorem dX9_readsFlag_58 : decode cX9_readsFlag 58 = .ok (.invokevirtual 108, 3) := by decide +kernel
theorem dX9_readsFlag_61 : decode cX9_readsFlag 61 = .ok (.ifCond .ne 5, 3) := by decide +kernel
theorem dX9_readsFlag_64 : decode cX9_readsFlag 64 = .ok (.iconst 0, 1) := by decide +kernel
theorem dX9_readsFlag_65 : decode cX9_readsFlag 65 = .ok (.ireturn, 1) := by decide +kernel
theorem dX9_readsFlag_66 : decode cX9_readsFlag 66 = .ok (.aload_n 0, 1) := by decide +kernel
theorem dX9_readsFlag_67 : decode cX9_readsFlag 67 = .ok (.getfield 41, 3) := by decide +kernel
theorem dX9_readsFlag_70 : decode cX9_readsFlag 70 = .ok (.iload_n 1, 1) := by decide +kernel
theorem dX9_readsFlag_71 : decode cX9_readsFlag 71 = .ok (.aload_n 0, 1) := by decide +kernel
theorem dX9_readsFlag_72 : decode cX9_readsFlag 72 = .ok (.getfield 91, 3) := by decide +kernel
theorem dX9_readsFlag_75 : decode cX9_readsFlag 75 = .ok (.bipush 48, 2) := by decide +kernel
theorem dX9_readsFlag_77 : decode cX9_readsFlag 77 = .ok (.isub, 1) := by decide +kernel
theorem dX9_readsFlag_78 : decode cX9_readsFlag 78 = .ok (.iastore, 1) := by decide +kernel
theorem dX9_readsFlag_79 : decode cX9_readsFlag 79 = .ok (.aload_n 0, 1) := by decide +kernel
theorem dX9_readsFlag_80 : decode cX9_readsFlag 80 = .ok (.invokevirtual 102, 3) := by decide +kernel
theorem dX9_readsFlag_83 : decode cX9_readsFlag 83 = .ok (.aload_n 0, 1) := by decide +kernel
theorem dX9_readsFlag_84 : decode cX9_readsFlag 84 = .ok (.invokevirtual 112, 3) := by decide +kernel
theorem dX9_readsFlag_87 : decode cX9_readsFlag 87 = .ok (.ireturn, 1) := by decide +kernel
theorem dX9_isNew_0 : decode cX9_isNew 0 = .ok (.iconst 0, 1) := by decide +kernel
theorem dX9_isNew_1 : decode cX9_isNew 1 = .ok (.istore_n 2, 1) := by decide +kernel
theorem dX9_isNew_2 : decode cX9_isNew 2 = .ok (.iload_n 2, 1) := by decide +kernel
theorem dX9_isNew_3 : decode cX9_isNew 3 = .ok (.iload_n 1, 1) := by decide +kernel
theorem dX9_isNew_4 : decode cX9_isNew 4 = .ok (.if_icmp .ge 91, 3) := by decide +kernel
theorem dX9_isNew_7 : decode cX9_isNew 7 = .ok (.aload_n 0, 1) := by decide +kernel
theorem dX9_isNew_8 : decode cX9_isNew 8 = .ok (.getfield 44, 3) := by decide +kernel
theorem dX9_isNew_11 : decode cX9_isNew 11 = .ok (.iload_n 2, 1) := by decide +kernel
theorem dX9_isNew_12 : decode cX9_isNew 12 = .ok (.iaload, 1) := by decide +kernel
theorem dX9_isNew_13 : decode cX9_isNew 13 = .ok (.aload_n 0, 1) := by decide +kernel
theorem dX9_isNew_14 : decode cX9_isNew 14 = .ok (.getfield 44, 3) := by decide +kernel
theorem dX9_isNew_17 : decode cX9_isNew 17 = .ok (.iload_n 1, 1) := by decide +kernel
theorem dX9_isNew_18 : decode cX9_isNew 18 = .ok (.iaload, 1) := by decide +kernel
theorem dX9_isNew_19 : decode cX9_isNew 19 = .ok (.if_icmp .eq 7, 3) := by decide +kernel
theorem dX9_isNew_22 : decode cX9_isNew 22 = .ok (.iconst 1, 1) := by decide +kernel
theorem dX9_isNew_23 : decode cX9_isNew 23 = .ok (.goto 4, 3) := by decide +kernel
theorem dX9_isNew_26 : decode cX9_isNew 26 = .ok (.iconst 0, 1) := by decide +kernel
theorem dX9_isNew_27 : decode cX9_isNew 27 = .ok (.istore_n 3, 1) := by decide +kernel
theorem dX9_isNew_28 : decode cX9_isNew 28 = .ok (.iconst 0, 1) := by decide +kernel
theorem dX9_isNew_29 : decode cX9_isNew 29 = .ok (.istore 4, 2) := by decide +kernel
theorem dX9_isNew_31 : decode cX9_isNew 31 = .ok (.iload 4, 2) := by decide +kernel
theorem dX9_isNew_33 : decode cX9_isNew 33 = .ok (.aload_n 0, 1) := by decide +kernel
theorem dX9_isNew_34 : decode cX9_isNew 34 = .ok (.getfield 44, 3) := by decide +kernel
theorem dX9_isNew_37 : decode cX9_isNew 37 = .ok (.iload_n 1, 1) := by decide +kernel
theorem dX9_isNew_38 : decode cX9_isNew 38 = .ok (.iaload, 1) := by decide +kernel
theorem dX9_isNew_39 : decode cX9_isNew 39 = .ok (.if_icmp .ge 44, 3) := by decide +kernel
theorem dX9_isNew_42 : decode cX9_isNew 42 = .ok (.iload_n 3, 1) := by decide +kernel
theorem dX9_isNew_43 : decode cX9_isNew 43 = .ok (.ifCond .ne 40, 3) := by decide +kernel
theorem dX9_isNew_46 : decode cX9_isNew 46 = .ok (.aload_n 0, 1) := by decide +kernel
theorem dX9_isNew_47 : decode cX9_isNew 47 = .ok (.getfield 47, 3) := by decide +kernel
theorem dX9_isNew_50 : decode cX9_isNew 50 = .ok (.iconst 4, 1) := by decide +kernel
theorem dX9_isNew_51 : decode cX9_isNew 51 = .ok (.iload_n 2, 1) := by decide +kernel
theorem dX9_isNew_52 : decode cX9_isNew 52 = .ok (.imul, 1) := by decide +kernel
theorem dX9_isNew_53 : decode cX9_isNew 53 = .ok (.iload 4, 2) := by decide +kernel
theorem dX9_isNew_55 : decode cX9_isNew 55 = .ok (.iadd, 1) := by decide +kernel
theorem dX9_isNew_56 : decode cX9_isNew 56 = .ok (.iaload, 1) := by decide +kernel
theorem dX9_isNew_57 : decode cX9_isNew 57 = .ok (.aload_n 0, 1) := by decide +kernel
theorem dX9_isNew_58 : decode cX9_isNew 58 = .ok (.getfield 47, 3) := by decide +kernel
theorem dX9_isNew_61 : decode cX9_isNew 61 = .ok (.iconst 4, 1) := by decide +kernel
theorem dX9_isNew_62 : decode cX9_isNew 62 = .ok (.iload_n 1, 1) := by decide +kernel
theorem dX9_isNew_63 : decode cX9_isNew 63 = .ok (.imul, 1) := by decide +kernel
theorem dX9_isNew_64 : decode cX9_isNew 64 = .ok (.iload 4, 2) := by decide +kernel
theorem dX9_isNew_66 : decode cX9_isNew 66 = .ok (.iadd, 1) := by decide +kernel
theorem dX9_isNew_67 : decode cX9_isNew 67 = .ok (.iaload, 1) := by decide +kernel
theorem dX9_isNew_68 : decode cX9_isNew 68 = .ok (.if_icmp .eq 7, 3) := by decide +kernel
theorem dX9_isNew_71 : decode cX9_isNew 71 = .ok (.iconst 1, 1) := by decide +kernel
theorem dX9_isNew_72 : decode cX9_isNew 72 = .ok (.goto 4, 3) := by decide +kernel
theorem dX9_isNew_75 : decode cX9_isNew 75 = .ok (.iconst 0, 1) := by decide +kernel
theorem dX9_isNew_76 : decode cX9_isNew 76 = .ok (.istore_n 3, 1) := by decide +kernel
theorem dX9_isNew_77 : decode cX9_isNew 77 = .ok (.iinc 4 1, 3) := by decide +kernel
theorem dX9_isNew_80 : decode cX9_isNew 80 = .ok (.goto (-49), 3) := by decide +kernel
theorem dX9_isNew_83 : decode cX9_isNew 83 = .ok (.iload_n 3, 1) := by decide +kernel
theorem dX9_isNew_84 : decode cX9_isNew 84 = .ok (.ifCond .ne 5, 3) := by decide +kernel
theorem dX9_isNew_87 : decode cX9_isNew 87 = .ok (.iconst 0, 1) := by decide +kernel
theorem dX9_isNew_88 : decode cX9_isNew 88 = .ok (.ireturn, 1) := by decide +kernel
theorem dX9_isNew_89 : decode cX9_isNew 89 = .ok (.iinc 2 1, 3) := by decide +kernel
theorem dX9_isNew_92 : decode cX9_isNew 92 = .ok (.goto (-90), 3) := by decide +kernel
theorem dX9_isNew_95 : decode cX9_isNew 95 = .ok (.iconst 1, 1) := by decide +kernel
theorem dX9_isNew_96 : decode cX9_isNew 96 = .ok (.ireturn, 1) := by decide +kernel
theorem dX9_readsCode_0 : decode cX9_readsCode 0 = .ok (.aload_n 0, 1) := by decide +kernel
theorem dX9_readsCode_1 : decode cX9_readsCode 1 = .ok (.getfield 119, 3) := by decide +kernel
theorem dX9_readsCode_4 : decode cX9_readsCode 4 = .ok (.istore_n 1, 1) := by decide +kernel
theorem dX9_readsCode_5 : decode cX9_readsCode 5 = .ok (.iload_n 1, 1) := by decide +kernel
theorem dX9_readsCode_6 : decode cX9_readsCode 6 = .ok (.bipush 10, 2) := by decide +kernel
theorem dX9_readsCode_8 : decode cX9_readsCode 8 = .ok (.if_icmp .ne 5, 3) := by decide +kernel
theorem dX9_readsCode_11 : decode cX9_readsCode 11 = .ok (.iconst 0, 1) := by decide +kernel
theorem dX9_readsCode_12 : decode cX9_readsCode 12 = .ok (.ireturn, 1) := by decide +kernel
theorem dX9_readsCode_13 : decode cX9_readsCode 13 = .ok (.aload_n 0, 1) := by decide +kernel
theorem dX9_readsCode_14 : decode cX9_readsCode 14 = .ok (.invokevirtual 102, 3) := by decide +kernel
theorem dX9_readsCode_17 : decode cX9_readsCode 17 = .ok (.aload_n 0, 1) := by decide +kernel
theorem dX9_readsCode_18 : decode cX9_readsCode 18 = .ok (.getfield 44, 3) := by decide +kernel
theorem dX9_readsCode_21 : decode cX9_readsCode 21 = .ok (.iload_n 1, 1) := by decide +kernel
theorem dX9_readsCode_22 : decode cX9_readsCode 22 = .ok (.iconst 0, 1) := by decide +kernel
theorem dX9_readsCode_23 : decode cX9_readsCode 23 = .ok (.iastore, 1) := by decide +kernel
theorem dX9_readsCode_24 : decode cX9_readsCode 24 = .ok (.aload_n 0, 1) := by decide +kernel
theorem dX9_readsCode_25 : decode cX9_readsCode 25 = .ok (.invokevirtual 116, 3) := by decide +kernel
theorem dX9_readsCode_28 : decode cX9_readsCode 28 = .ok (.ifCond .eq 52, 3) := by decide +kernel
theorem dX9_readsCode_31 : decode cX9_readsCode 31 = .ok (.aload_n 0, 1) := by decide +kernel
theorem dX9_readsCode_32 : decode cX9_readsCode 32 = .ok (.getfield 44, 3) := by decide +kernel
theorem dX9_readsCode_35 : decode cX9_readsCode 35 = .ok (.iload_n 1, 1) := by decide +kernel
theorem dX9_readsCode_36 : decode cX9_readsCode 36 = .ok (.iaload, 1) := by decide +kernel
theorem dX9_readsCode_37 : decode cX9_readsCode 37 = .ok (.iconst 4, 1) := by decide +kernel
theorem dX9_readsCode_38 : decode cX9_readsCode 38 = .ok (.if_icmp .ge 42, 3) := by decide +kernel
theorem dX9_readsCode_41 : decode cX9_readsCode 41 = .ok (.aload_n 0, 1) := by decide +kernel
theorem dX9_readsCode_42 : decode cX9_readsCode 42 = .ok (.getfield 47, 3) := by decide +kernel
theorem dX9_readsCode_45 : decode cX9_readsCode 45 = .ok (.iconst 4, 1) := by decide +kernel
theorem dX9_readsCode_46 : decode cX9_readsCode 46 = .ok (.iload_n 1, 1) := by decide +kernel
theorem dX9_readsCode_47 : decode cX9_readsCode 47 = .ok (.imul, 1) := by decide +kernel
theorem dX9_readsCode_48 : decode cX9_readsCode 48 = .ok (.aload_n 0, 1) := by decide +kernel
theorem dX9_readsCode_49 : decode cX9_readsCode 49 = .ok (.getfield 44, 3) := by decide +kernel
theorem dX9_readsCode_52 : decode cX9_readsCode 52 = .ok (.iload_n 1, 1) := by decide +kernel
theorem dX9_readsCode_53 : decode cX9_readsCode 53 = .ok (.iaload, 1) := by decide +kernel
theorem dX9_readsCode_54 : decode cX9_readsCode 54 = .ok (.iadd, 1) := by decide +kernel
theorem dX9_readsCode_55 : decode cX9_readsCode 55 = .ok (.aload_n 0, 1) := by decide +kernel
theorem dX9_readsCode_56 : decode cX9_readsCode 56 = .ok (.getfield 91, 3) := by decide +kernel
theorem dX9_readsCode_59 : decode cX9_readsCode 59 = .ok (.bipush 97, 2) := by decide +kernel
theorem dX9_readsCode_61 : decode cX9_readsCode 61 = .ok (.isub, 1) := by decide +kernel
theorem dX9_readsCode_62 : decode cX9_readsCode 62 = .ok (.iastore, 1) := by decide +kernel
theorem dX9_readsCode_63 : decode cX9_readsCode 63 = .ok (.aload_n 0, 1) := by decide +kernel
theorem dX9_readsCode_64 : decode cX9_readsCode 64 = .ok (.getfield 44, 3) := by decide +kernel
theorem dX9_readsCode_67 : decode cX9_readsCode 67 = .ok (.iload_n 1, 1) := by decide +kernel
theorem dX9_readsCode_68 : decode cX9_readsCode 68 = .ok (.dup2, 1) := by decide +kernel
theorem dX9_readsCode_69 : decode cX9_readsCode 69 = .ok (.iaload, 1) := by decide +kernel
theorem dX9_readsCode_70 : decode cX9_readsCode 70 = .ok (.iconst 1, 1) := by decide +kernel
theorem dX9_readsCode_71 : decode cX9_readsCode 71 = .ok (.iadd, 1) := by decide +kernel
theorem dX9_readsCode_72 : decode cX9_readsCode 72 = .ok (.iastore, 1) := by decide +kernel
theorem dX9_readsCode_73 : decode cX9_readsCode 73 = .ok (.aload_n 0, 1) := by decide +kernel
theorem dX9_readsCode_74 : decode cX9_readsCode 74 = .ok (.invokevirtual 102, 3) := by decide +kernel
theorem dX9_readsCode_77 : decode cX9_readsCode 77 = .ok (.goto (-53), 3) := by decide +kernel
theorem dX9_readsCode_80 : decode cX9_readsCode 80 = .ok (.aload_n 0, 1) := by decide +kernel
theorem dX9_readsCode_81 : decode cX9_readsCode 81 = .ok (.getfield 44, 3) := by decide +kernel
theorem dX9_readsCode_84 : decode cX9_readsCode 84 = .ok (.iload_n 1, 1) := by decide +kernel
theorem dX9_readsCode_85 : decode cX9_readsCode 85 = .ok (.iaload, 1) := by decide +kernel
theorem dX9_readsCode_86 : decode cX9_readsCode 86 = .ok (.ifCond .eq 20, 3) := by decide +kernel
theorem dX9_readsCode_89 : decode cX9_readsCode 89 = .ok (.aload_n 0, 1) := by decide +kernel
theorem dX9_readsCode_90 : decode cX9_readsCode 90 = .ok (.getfield 91, 3) := by decide +kernel
theorem dX9_readsCode_93 : decode cX9_readsCode 93 = .ok (.bipush 59, 2) := by decide +kernel
theorem dX9_readsCode_95 : decode cX9_readsCode 95 = .ok (.if_icmp .ne 11, 3) := by decide +kernel
theorem dX9_readsCode_98 : decode cX9_readsCode 98 = .ok (.aload_n 0, 1) := by decide +kernel
theorem dX9_readsCode_99 : decode cX9_readsCode 99 = .ok (.iload_n 1, 1) := by decide +kernel
theorem dX9_readsCode_100 : decode cX9_readsCode 100 = .ok (.invokevirtual 122, 3) := by decide +kernel
theorem dX9_readsCode_103 : decode cX9_readsCode 103 = .ok (.ifCond .ne 5, 3) := by decide +kernel
theorem dX9_readsCode_106 : decode cX9_readsCode 106 = .ok (.iconst 0, 1) := by decide +kernel
theorem dX9_readsCode_107 : decode cX9_readsCode 107 = .ok (.ireturn, 1) := by decide +kernel
theorem dX9_readsCode_108 : decode cX9_readsCode 108 = .ok (.aload_n 0, 1) := by decide +kernel
theorem dX9_readsCode_109 : decode cX9_readsCode 109 = .ok (.dup, 1) := by decide +kernel
theorem dX9_readsCode_110 : decode cX9_readsCode 110 = .ok (.getfield 119, 3) := by decide +kernel
theorem dX9_readsCode_113 : decode cX9_readsCode 113 = .ok (.iconst 1, 1) := by decide +kernel
theorem dX9_readsCode_114 : decode cX9_readsCode 114 = .ok (.iadd, 1) := by decide +kernel
theorem dX9_readsCode_115 : decode cX9_readsCode 115 = .ok (.putfield 119, 3) := by decide +kernel
theorem dX9_readsCode_118 : decode cX9_readsCode 118 = .ok (.aload_n 0, 1) := by decide +kernel
theorem dX9_readsCode_119 : decode cX9_readsCode 119 = .ok (.invokevirtual 112, 3) := by decide +kernel
theorem dX9_readsCode_122 : decode cX9_readsCode 122 = .ok (.ireturn, 1) := by decide +kernel
theorem dX9_readsItem_0 : decode cX9_readsItem 0 = .ok (.aload_n 0, 1) := by decide +kernel
theorem dX9_readsItem_1 : decode cX9_readsItem 1 = .ok (.getfield 91, 3) := by decide +kernel
theorem dX9_readsItem_4 : decode cX9_readsItem 4 = .ok (.lookupswitch 51 #[(102, 41), (107, 46), (112, 36)], 36) := by decide +kernel
theorem dX9_readsItem_40 : decode cX9_readsItem 40 = .ok (.aload_n 0, 1) := by decide +kernel
theorem dX9_readsItem_41 : decode cX9_readsItem 41 = .ok (.invokevirtual 125, 3) := by decide +kernel
theorem dX9_readsItem_44 : decode cX9_readsItem 44 = .ok (.ireturn, 1) := by decide +kernel
theorem dX9_readsItem_45 : decode cX9_readsItem 45 = .ok (.aload_n 0, 1) := by decide +kernel
theorem dX9_readsItem_46 : decode cX9_readsItem 46 = .ok (.invokevirtual 128, 3) := by decide +kernel
theorem dX9_readsItem_49 : decode cX9_readsItem 49 = .ok (.ireturn, 1) := by decide +kernel
theorem dX9_readsItem_50 : decode cX9_readsItem 50 = .ok (.aload_n 0, 1) := by decide +kernel
theorem dX9_readsItem_51 : decode cX9_readsItem 51 = .ok (.invokevirtual 131, 3) := by decide +kernel
theorem dX9_readsItem_54 : decode cX9_readsItem 54 = .ok (.ireturn, 1) := by decide +kernel
theorem dX9_readsItem_55 : decode cX9_readsItem 55 = .ok (.iconst 0, 1) := by decide +kernel
theorem dX9_readsItem_56 : decode cX9_readsItem 56 = .ok (.ireturn, 1) := by decide +kernel
theorem dX9_reads_0 : decode cX9_reads 0 = .ok (.aload_n 0, 1) := by decide +kernel
theorem dX9_reads_1 : decode cX9_reads 1 = .ok (.iconst 0, 1) := by decide +kernel
theorem dX9_reads_2 : decode cX9_reads 2 = .ok (.putfield 82, 3) := by decide +kernel
theorem dX9_reads_5 : decode cX9_reads 5 = .ok (.aload_n 0, 1) := by decide +kernel
theorem dX9_reads_6 : decode cX9_reads 6 = .ok (.iconst 0, 1) := by decide +kernel
theorem dX9_reads_7 : decode cX9_reads 7 = .ok (.putfield 134, 3) := by decide +kernel
theorem dX9_reads_10 : decode cX9_reads 10 = .ok (.aload_n 0, 1) := by decide +kernel
theorem dX9_reads_11 : decode cX9_reads 11 = .ok (.iconst 0, 1) := by decide +kernel
theorem dX9_reads_12 : decode cX9_reads 12 = .ok (.putfield 105, 3) := by decide +kernel
theorem dX9_reads_15 : decode cX9_reads 15 = .ok (.aload_n 0, 1) := by decide +kernel
theorem dX9_reads_16 : decode cX9_reads 16 = .ok (.iconst 0, 1) := by decide +kernel
theorem dX9_reads_17 : decode cX9_reads 17 = .ok (.putfield 119, 3) := by decide +kernel
theorem dX9_reads_20 : decode cX9_reads 20 = .ok (.aload_n 0, 1) := by decide +kernel
theorem dX9_reads_21 : decode cX9_reads 21 = .ok (.getfield 38, 3) := by decide +kernel
theorem dX9_reads_24 : decode cX9_reads 24 = .ok (.aload_n 0, 1) := by decide +kernel
theorem dX9_reads_25 : decode cX9_reads 25 = .ok (.getfield 41, 3) := by decide +kernel
theorem dX9_reads_28 : decode cX9_reads 28 = .ok (.invokestatic 62, 3) := by decide +kernel
theorem dX9_reads_31 : decode cX9_reads 31 = .ok (.aload_n 0, 1) := by decide +kernel
theorem dX9_reads_32 : decode cX9_reads 32 = .ok (.invokevirtual 102, 3) := by decide +kernel
theorem dX9_reads_35 : decode cX9_reads 35 = .ok (.aload_n 0, 1) := by decide +kernel
theorem dX9_reads_36 : decode cX9_reads 36 = .ok (.getfield 91, 3) := by decide +kernel
theorem dX9_reads_39 : decode cX9_reads 39 = .ok (.iconst (-1), 1) := by decide +kernel
theorem dX9_reads_40 : decode cX9_reads 40 = .ok (.if_icmp .eq 25, 3) := by decide +kernel
theorem dX9_reads_43 : decode cX9_reads 43 = .ok (.aload_n 0, 1) := by decide +kernel
theorem dX9_reads_44 : decode cX9_reads 44 = .ok (.invokevirtual 137, 3) := by decide +kernel
theorem dX9_reads_47 : decode cX9_reads 47 = .ok (.ifCond .ne 5, 3) := by decide +kernel
theorem dX9_reads_50 : decode cX9_reads 50 = .ok (.iconst 0, 1) := by decide +kernel
theorem dX9_reads_51 : decode cX9_reads 51 = .ok (.ireturn, 1) := by decide +kernel
theorem dX9_reads_52 : decode cX9_reads 52 = .ok (.aload_n 0, 1) := by decide +kernel
theorem dX9_reads_53 : decode cX9_reads 53 = .ok (.dup, 1) := by decide +kernel
theorem dX9_reads_54 : decode cX9_reads 54 = .ok (.getfield 134, 3) := by decide +kernel
theorem dX9_reads_57 : decode cX9_reads 57 = .ok (.iconst 1, 1) := by decide +kernel
theorem dX9_reads_58 : decode cX9_reads 58 = .ok (.iadd, 1) := by decide +kernel
theorem dX9_reads_59 : decode cX9_reads 59 = .ok (.putfield 134, 3) := by decide +kernel
theorem dX9_reads_62 : decode cX9_reads 62 = .ok (.goto (-27), 3) := by decide +kernel
theorem dX9_reads_65 : decode cX9_reads 65 = .ok (.iconst 1, 1) := by decide +kernel
theorem dX9_reads_66 : decode cX9_reads 66 = .ok (.ireturn, 1) := by decide +kernel
theorem dX9_type_0 : decode cX9_type 0 = .ok (.iload_n 1, 1) := by decide +kernel
theorem dX9_type_1 : decode cX9_type 1 = .ok (.i2l, 1) := by decide +kernel
theorem dX9_type_2 : decode cX9_type 2 = .ok (.lconst 0, 1) := by decide +kernel
theorem dX9_type_3 : decode cX9_type 3 = .ok (.ldc2_w 140, 3) := by decide +kernel
theorem dX9_type_6 : decode cX9_type 6 = .ok (.invokestatic 78, 3) := by decide +kernel
theorem dX9_type_9 : decode cX9_type 9 = .ok (.ifCond .ne 5, 3) := by decide +kernel
theorem dX9_type_12 : decode cX9_type 12 = .ok (.iconst (-1), 1) := by decide +kernel
theorem dX9_type_13 : decode cX9_type 13 = .ok (.ireturn, 1) := by decide +kernel
theorem dX9_type_14 : decode cX9_type 14 = .ok (.aload_n 0, 1) := by decide +kernel
theorem dX9_type_15 : decode cX9_type 15 = .ok (.getfield 85, 3) := by decide +kernel
theorem dX9_type_18 : decode cX9_type 18 = .ok (.bipush 120, 2) := by decide +kernel
theorem dX9_type_20 : decode cX9_type 20 = .ok (.if_icmp .ne 6, 3) := by decide +kernel
theorem dX9_type_23 : decode cX9_type 23 = .ok (.bipush (-3), 2) := by decide +kernel
theorem dX9_type_25 : decode cX9_type 25 = .ok (.ireturn, 1) := by decide +kernel
theorem dX9_type_26 : decode cX9_type 26 = .ok (.aload_n 0, 1) := by decide +kernel
theorem dX9_type_27 : decode cX9_type 27 = .ok (.getfield 23, 3) := by decide +kernel
theorem dX9_type_30 : decode cX9_type 30 = .ok (.aload_n 0, 1) := by decide +kernel
theorem dX9_type_31 : decode cX9_type 31 = .ok (.getfield 85, 3) := by decide +kernel
theorem dX9_type_34 : decode cX9_type 34 = .ok (.iload_n 1, 1) := by decide +kernel
theorem dX9_type_35 : decode cX9_type 35 = .ok (.iastore, 1) := by decide +kernel
theorem dX9_type_36 : decode cX9_type 36 = .ok (.aload_n 0, 1) := by decide +kernel
theorem dX9_type_37 : decode cX9_type 37 = .ok (.dup, 1) := by decide +kernel
theorem dX9_type_38 : decode cX9_type 38 = .ok (.getfield 85, 3) := by decide +kernel
theorem dX9_type_41 : decode cX9_type 41 = .ok (.iconst 1, 1) := by decide +kernel
theorem dX9_type_42 : decode cX9_type 42 = .ok (.iadd, 1) := by decide +kernel
theorem dX9_type_43 : decode cX9_type 43 = .ok (.putfield 85, 3) := by decide +kernel
theorem dX9_type_46 : decode cX9_type 46 = .ok (.aload_n 0, 1) := by decide +kernel
theorem dX9_type_47 : decode cX9_type 47 = .ok (.getfield 85, 3) := by decide +kernel
theorem dX9_type_50 : decode cX9_type 50 = .ok (.ireturn, 1) := by decide +kernel
theorem dX9_clear_0 : decode cX9_clear 0 = .ok (.aload_n 0, 1) := by decide +kernel
theorem dX9_clear_1 : decode cX9_clear 1 = .ok (.getfield 85, 3) := by decide +kernel
theorem dX9_clear_4 : decode cX9_clear 4 = .ok (.istore_n 1, 1) := by decide +kernel
theorem dX9_clear_5 : decode cX9_clear 5 = .ok (.aload_n 0, 1) := by decide +kernel
theorem dX9_clear_6 : decode cX9_clear 6 = .ok (.iconst 0, 1) := by decide +kernel
theorem dX9_clear_7 : decode cX9_clear 7 = .ok (.putfield 85, 3) := by decide +kernel
theorem dX9_clear_10 : decode cX9_clear 10 = .ok (.iload_n 1, 1) := by decide +kernel
theorem dX9_clear_11 : decode cX9_clear 11 = .ok (.ireturn, 1) := by decide +kernel
theorem dX9_book_0 : decode cX9_book 0 = .ok (.aload_n 0, 1) := by decide +kernel
theorem dX9_book_1 : decode cX9_book 1 = .ok (.invokevirtual 142, 3) := by decide +kernel
theorem dX9_book_4 : decode cX9_book 4 = .ok (.ifCond .ne 11, 3) := by decide +kernel
theorem dX9_book_7 : decode cX9_book 7 = .ok (.bipush (-10), 2) := by decide +kernel
theorem dX9_book_9 : decode cX9_book 9 = .ok (.aload_n 0, 1) := by decide +kernel
theorem dX9_book_10 : decode cX9_book 10 = .ok (.getfield 88, 3) := by decide +kernel
theorem dX9_book_13 : decode cX9_book 13 = .ok (.isub, 1) := by decide +kernel
theorem dX9_book_14 : decode cX9_book 14 = .ok (.ireturn, 1) := by decide +kernel
theorem dX9_book_15 : decode cX9_book 15 = .ok (.iconst 0, 1) := by decide +kernel
theorem dX9_book_16 : decode cX9_book 16 = .ok (.istore_n 1, 1) := by decide +kernel
theorem dX9_book_17 : decode cX9_book 17 = .ok (.iload_n 1, 1) := by decide +kernel
theorem dX9_book_18 : decode cX9_book 18 = .ok (.bipush 8, 2) := by decide +kernel
theorem dX9_book_20 : decode cX9_book 20 = .ok (.if_icmp .ge 33, 3) := by decide +kernel
theorem dX9_book_23 : decode cX9_book 23 = .ok (.aload_n 0, 1) := by decide +kernel
theorem dX9_book_24 : decode cX9_book 24 = .ok (.getfield 26, 3) := by decide +kernel
theorem dX9_book_27 : decode cX9_book 27 = .ok (.iload_n 1, 1) := by decide +kernel
theorem dX9_book_28 : decode cX9_book 28 = .ok (.aload_n 0, 1) := by decide +kernel
theorem dX9_book_29 : decode cX9_book 29 = .ok (.getfield 38, 3) := by decide +kernel
theorem dX9_book_32 : decode cX9_book 32 = .ok (.iload_n 1, 1) := by decide +kernel
theorem dX9_book_33 : decode cX9_book 33 = .ok (.iaload, 1) := by decide +kernel
theorem dX9_book_34 : decode cX9_book 34 = .ok (.iastore, 1) := by decide +kernel
theorem dX9_book_35 : decode cX9_book 35 = .ok (.aload_n 0, 1) := by decide +kernel
theorem dX9_book_36 : decode cX9_book 36 = .ok (.getfield 29, 3) := by decide +kernel
theorem dX9_book_39 : decode cX9_book 39 = .ok (.iload_n 1, 1) := by decide +kernel
theorem dX9_book_40 : decode cX9_book 40 = .ok (.aload_n 0, 1) := by decide +kernel
theorem dX9_book_41 : decode cX9_book 41 = .ok (.getfield 41, 3) := by decide +kernel
theorem dX9_book_44 : decode cX9_book 44 = .ok (.iload_n 1, 1) := by decide +kernel
theorem dX9_book_45 : decode cX9_book 45 = .ok (.iaload, 1) := by decide +kernel
theorem dX9_book_46 : decode cX9_book 46 = .ok (.iastore, 1) := by decide +kernel
theorem dX9_book_47 : decode cX9_book 47 = .ok (.iinc 1 1, 3) := by decide +kernel
theorem dX9_book_50 : decode cX9_book 50 = .ok (.goto (-33), 3) := by decide +kernel
theorem dX9_book_53 : decode cX9_book 53 = .ok (.aload_n 0, 1) := by decide +kernel
theorem dX9_book_54 : decode cX9_book 54 = .ok (.aload_n 0, 1) := by decide +kernel
theorem dX9_book_55 : decode cX9_book 55 = .ok (.getfield 119, 3) := by decide +kernel
theorem dX9_book_58 : decode cX9_book 58 = .ok (.putfield 145, 3) := by decide +kernel
theorem dX9_book_61 : decode cX9_book 61 = .ok (.iconst 0, 1) := by decide +kernel
theorem dX9_book_62 : decode cX9_book 62 = .ok (.istore_n 1, 1) := by decide +kernel
theorem dX9_book_63 : decode cX9_book 63 = .ok (.iload_n 1, 1) := by decide +kernel
theorem dX9_book_64 : decode cX9_book 64 = .ok (.aload_n 0, 1) := by decide +kernel
theorem dX9_book_65 : decode cX9_book 65 = .ok (.getfield 145, 3) := by decide +kernel
theorem dX9_book_68 : decode cX9_book 68 = .ok (.if_icmp .ge 54, 3) := by decide +kernel
theorem dX9_book_71 : decode cX9_book 71 = .ok (.aload_n 0, 1) := by decide +kernel
theorem dX9_book_72 : decode cX9_book 72 = .ok (.getfield 32, 3) := by decide +kernel
theorem dX9_book_75 : decode cX9_book 75 = .ok (.iload_n 1, 1) := by decide +kernel
theorem dX9_book_76 : decode cX9_book 76 = .ok (.aload_n 0, 1) := by decide +kernel
theorem dX9_book_77 : decode cX9_book 77 = .ok (.getfield 44, 3) := by decide +kernel
theorem dX9_book_80 : decode cX9_book 80 = .ok (.iload_n 1, 1) := by decide +kernel
theorem dX9_book_81 : decode cX9_book 81 = .ok (.iaload, 1) := by decide +kernel
theorem dX9_book_82 : decode cX9_book 82 = .ok (.iastore, 1) := by decide +kernel
theorem dX9_book_83 : decode cX9_book 83 = .ok (.iconst 0, 1) := by decide +kernel
theorem dX9_book_84 : decode cX9_book 84 = .ok (.istore_n 2, 1) := by decide +kernel
theorem dX9_book_85 : decode cX9_book 85 = .ok (.iload_n 2, 1) := by decide +kernel
theorem dX9_book_86 : decode cX9_book 86 = .ok (.iconst 4, 1) := by decide +kernel
theorem dX9_book_87 : decode cX9_book 87 = .ok (.if_icmp .ge 29, 3) := by decide +kernel
theorem dX9_book_90 : decode cX9_book 90 = .ok (.aload_n 0, 1) := by decide +kernel
theorem dX9_book_91 : decode cX9_book 91 = .ok (.getfield 35, 3) := by decide +kernel
theorem dX9_book_94 : decode cX9_book 94 = .ok (.iconst 4, 1) := by decide +kernel
theorem dX9_book_95 : decode cX9_book 95 = .ok (.iload_n 1, 1) := by decide +kernel
theorem dX9_book_96 : decode cX9_book 96 = .ok (.imul, 1) := by decide +kernel
theorem dX9_book_97 : decode cX9_book 97 = .ok (.iload_n 2, 1) := by decide +kernel
theorem dX9_book_98 : decode cX9_book 98 = .ok (.iadd, 1) := by decide +kernel
theorem dX9_book_99 : decode cX9_book 99 = .ok (.aload_n 0, 1) := by decide +kernel
theorem dX9_book_100 : decode cX9_book 100 = .ok (.getfield 47, 3) := by decide +kernel
theorem dX9_book_103 : decode cX9_book 103 = .ok (.iconst 4, 1) := by decide +kernel
theorem dX9_book_104 : decode cX9_book 104 = .ok (.iload_n 1, 1) := by decide +kernel
theorem dX9_book_105 : decode cX9_book 105 = .ok (.imul, 1) := by decide +kernel
theorem dX9_book_106 : decode cX9_book 106 = .ok (.iload_n 2, 1) := by decide +kernel
theorem dX9_book_107 : decode cX9_book 107 = .ok (.iadd, 1) := by decide +kernel
theorem dX9_book_108 : decode cX9_book 108 = .ok (.iaload, 1) := by decide +kernel
theorem dX9_book_109 : decode cX9_book 109 = .ok (.iastore, 1) := by decide +kernel
theorem dX9_book_110 : decode cX9_book 110 = .ok (.iinc 2 1, 3) := by decide +kernel
theorem dX9_book_113 : decode cX9_book 113 = .ok (.goto (-28), 3) := by decide +kernel
theorem dX9_book_116 : decode cX9_book 116 = .ok (.iinc 1 1, 3) := by decide +kernel
theorem dX9_book_119 : decode cX9_book 119 = .ok (.goto (-56), 3) := by decide +kernel
theorem dX9_book_122 : decode cX9_book 122 = .ok (.iconst 0, 1) := by decide +kernel
theorem dX9_book_123 : decode cX9_book 123 = .ok (.istore_n 1, 1) := by decide +kernel
theorem dX9_book_124 : decode cX9_book 124 = .ok (.iload_n 1, 1) := by decide +kernel
theorem dX9_book_125 : decode cX9_book 125 = .ok (.bipush 12, 2) := by decide +kernel
theorem dX9_book_127 : decode cX9_book 127 = .ok (.if_icmp .ge 16, 3) := by decide +kernel
theorem dX9_book_130 : decode cX9_book 130 = .ok (.aload_n 0, 1) := by decide +kernel
theorem dX9_book_131 : decode cX9_book 131 = .ok (.getfield 7, 3) := by decide +kernel
theorem dX9_book_134 : decode cX9_book 134 = .ok (.iload_n 1, 1) := by decide +kernel
theorem dX9_book_135 : decode cX9_book 135 = .ok (.iconst 0, 1) := by decide +kernel
theorem dX9_book_136 : decode cX9_book 136 = .ok (.iastore, 1) := by decide +kernel
theorem dX9_book_137 : decode cX9_book 137 = .ok (.iinc 1 1, 3) := by decide +kernel
theorem dX9_book_140 : decode cX9_book 140 = .ok (.goto (-16), 3) := by decide +kernel
theorem dX9_book_143 : decode cX9_book 143 = .ok (.aload_n 0, 1) := by decide +kernel
theorem dX9_book_144 : decode cX9_book 144 = .ok (.getfield 7, 3) := by decide +kernel
theorem dX9_book_147 : decode cX9_book 147 = .ok (.bipush 9, 2) := by decide +kernel
theorem dX9_book_149 : decode cX9_book 149 = .ok (.aload_n 0, 1) := by decide +kernel
theorem dX9_book_150 : decode cX9_book 150 = .ok (.getfield 105, 3) := by decide +kernel
theorem dX9_book_153 : decode cX9_book 153 = .ok (.ifCond .le 10, 3) := by decide +kernel
theorem dX9_book_156 : decode cX9_book 156 = .ok (.aload_n 0, 1) := by decide +kernel
theorem dX9_book_157 : decode cX9_book 157 = .ok (.getfield 105, 3) := by decide +kernel
theorem dX9_book_160 : decode cX9_book 160 = .ok (.goto 4, 3) := by decide +kernel
theorem dX9_book_163 : decode cX9_book 163 = .ok (.iconst 5, 1) := by decide +kernel
theorem dX9_book_164 : decode cX9_book 164 = .ok (.iastore, 1) := by decide +kernel
theorem dX9_book_165 : decode cX9_book 165 = .ok (.aload_n 0, 1) := by decide +kernel
theorem dX9_book_166 : decode cX9_book 166 = .ok (.iconst 0, 1) := by decide +kernel
theorem dX9_book_167 : decode cX9_book 167 = .ok (.putfield 85, 3) := by decide +kernel
theorem dX9_book_170 : decode cX9_book 170 = .ok (.aload_n 0, 1) := by decide +kernel
theorem dX9_book_171 : decode cX9_book 171 = .ok (.iconst 0, 1) := by decide +kernel
theorem dX9_book_172 : decode cX9_book 172 = .ok (.putfield 66, 3) := by decide +kernel
theorem dX9_book_175 : decode cX9_book 175 = .ok (.aload_n 0, 1) := by decide +kernel
theorem dX9_book_176 : decode cX9_book 176 = .ok (.iconst 0, 1) := by decide +kernel
theorem dX9_book_177 : decode cX9_book 177 = .ok (.putfield 148, 3) := by decide +kernel
theorem dX9_book_180 : decode cX9_book 180 = .ok (.aload_n 0, 1) := by decide +kernel
theorem dX9_book_181 : decode cX9_book 181 = .ok (.getfield 13, 3) := by decide +kernel
theorem dX9_book_184 : decode cX9_book 184 = .ok (.iconst 0, 1) := by decide +kernel
theorem dX9_book_185 : decode cX9_book 185 = .ok (.iconst 0, 1) := by decide +kernel
theorem dX9_book_186 : decode cX9_book 186 = .ok (.bastore, 1) := by decide +kernel
theorem dX9_book_187 : decode cX9_book 187 = .ok (.aload_n 0, 1) := by decide +kernel
theorem dX9_book_188 : decode cX9_book 188 = .ok (.getfield 13, 3) := by decide +kernel
theorem dX9_book_191 : decode cX9_book 191 = .ok (.iconst 1, 1) := by decide +kernel
theorem dX9_book_192 : decode cX9_book 192 = .ok (.iconst 0, 1) := by decide +kernel
theorem dX9_book_193 : decode cX9_book 193 = .ok (.bastore, 1) := by decide +kernel
theorem dX9_book_194 : decode cX9_book 194 = .ok (.aload_n 0, 1) := by decide +kernel
theorem dX9_book_195 : decode cX9_book 195 = .ok (.getfield 134, 3) := by decide +kernel
theorem dX9_book_198 : decode cX9_book 198 = .ok (.ireturn, 1) := by decide +kernel
theorem dX9_isSentence_0 : decode cX9_isSentence 0 = .ok (.iload_n 1, 1) := by decide +kernel
theorem dX9_isSentence_1 : decode cX9_isSentence 1 = .ok (.i2l, 1) := by decide +kernel
theorem dX9_isSentence_2 : decode cX9_isSentence 2 = .ok (.lconst 0, 1) := by decide +kernel
theorem dX9_isSentence_3 : decode cX9_isSentence 3 = .ok (.aload_n 0, 1) := by decide +kernel
theorem dX9_isSentence_4 : decode cX9_isSentence 4 = .ok (.getfield 145, 3) := by decide +kernel
theorem dX9_isSentence_7 : decode cX9_isSentence 7 = .ok (.iconst 1, 1) := by decide +kernel
theorem dX9_isSentence_8 : decode cX9_isSentence 8 = .ok (.isub, 1) := by decide +kernel
theorem dX9_isSentence_9 : decode cX9_isSentence 9 = .ok (.i2l, 1) := by decide +kernel
theorem dX9_isSentence_10 : decode cX9_isSentence 10 = .ok (.invokestatic 78, 3) := by decide +kernel
theorem dX9_isSentence_13 : decode cX9_isSentence 13 = .ok (.ireturn, 1) := by decide +kernel
theorem dX9_flag_0 : decode cX9_flag 0 = .ok (.iload_n 1, 1) := by decide +kernel
theorem dX9_flag_1 : decode cX9_flag 1 = .ok (.i2l, 1) := by decide +kernel
theorem dX9_flag_2 : decode cX9_flag 2 = .ok (.lconst 0, 1) := by decide +kernel
theorem dX9_flag_3 : decode cX9_flag 3 = .ok (.ldc2_w 151, 3) := by decide +kernel
theorem dX9_flag_6 : decode cX9_flag 6 = .ok (.invokestatic 78, 3) := by decide +kernel
theorem dX9_flag_9 : decode cX9_flag 9 = .ok (.ifCond .eq 13, 3) := by decide +kernel
theorem dX9_flag_12 : decode cX9_flag 12 = .ok (.iload_n 2, 1) := by decide +kernel
theorem dX9_flag_13 : decode cX9_flag 13 = .ok (.i2l, 1) := by decide +kernel
theorem dX9_flag_14 : decode cX9_flag 14 = .ok (.lconst 0, 1) := by decide +kernel
theorem dX9_flag_15 : decode cX9_flag 15 = .ok (.lconst 1, 1) := by decide +kernel
theorem dX9_flag_16 : decode cX9_flag 16 = .ok (.invokestatic 78, 3) := by decide +kernel
theorem dX9_flag_19 : decode cX9_flag 19 = .ok (.ifCond .ne 7, 3) := by decide +kernel
theorem dX9_flag_22 : decode cX9_flag 22 = .ok (.iconst (-1), 1) := by decide +kernel
theorem dX9_flag_23 : decode cX9_flag 23 = .ok (.goto 22, 3) := by decide +kernel
theorem dX9_flag_26 : decode cX9_flag 26 = .ok (.iload_n 2, 1) := by decide +kernel
theorem dX9_flag_27 : decode cX9_flag 27 = .ok (.ifCond .ne 12, 3) := by decide +kernel
theorem dX9_flag_30 : decode cX9_flag 30 = .ok (.aload_n 0, 1) := by decide +kernel
theorem dX9_flag_31 : decode cX9_flag 31 = .ok (.getfield 26, 3) := by decide +kernel
theorem dX9_flag_34 : decode cX9_flag 34 = .ok (.iload_n 1, 1) := by decide +kernel
theorem dX9_flag_35 : decode cX9_flag 35 = .ok (.iaload, 1) := by decide +kernel
theorem dX9_flag_36 : decode cX9_flag 36 = .ok (.goto 9, 3) := by decide +kernel
theorem dX9_flag_39 : decode cX9_flag 39 = .ok (.aload_n 0, 1) := by decide +kernel
theorem dX9_flag_40 : decode cX9_flag 40 = .ok (.getfield 29, 3) := by decide +kernel
theorem dX9_flag_43 : decode cX9_flag 43 = .ok (.iload_n 1, 1) := by decide +kernel
theorem dX9_flag_44 : decode cX9_flag 44 = .ok (.iaload, 1) := by decide +kernel
theorem dX9_flag_45 : decode cX9_flag 45 = .ok (.ireturn, 1) := by decide +kernel
theorem dX9_code_0 : decode cX9_code 0 = .ok (.aload_n 0, 1) := by decide +kernel
theorem dX9_code_1 : decode cX9_code 1 = .ok (.iload_n 1, 1) := by decide +kernel
theorem dX9_code_2 : decode cX9_code 2 = .ok (.invokevirtual 153, 3) := by decide +kernel
theorem dX9_code_5 : decode cX9_code 5 = .ok (.ifCond .eq 8, 3) := by decide +kernel
theorem dX9_code_8 : decode cX9_code 8 = .ok (.iload_n 2, 1) := by decide +kernel
theorem dX9_code_9 : decode cX9_code 9 = .ok (.iconst (-1), 1) := by decide +kernel
theorem dX9_code_10 : decode cX9_code 10 = .ok (.if_icmp .ge 5, 3) := by decide +kernel
theorem dX9_code_13 : decode cX9_code 13 = .ok (.iconst (-1), 1) := by decide +kernel
theorem dX9_code_14 : decode cX9_code 14 = .ok (.ireturn, 1) := by decide +kernel
theorem dX9_code_15 : decode cX9_code 15 = .ok (.iload_n 2, 1) := by decide +kernel
theorem dX9_code_16 : decode cX9_code 16 = .ok (.ifCond .ge 12, 3) := by decide +kernel
theorem dX9_code_19 : decode cX9_code 19 = .ok (.aload_n 0, 1) := by decide +kernel
theorem dX9_code_20 : decode cX9_code 20 = .ok (.getfield 32, 3) := by decide +kernel
theorem dX9_code_23 : decode cX9_code 23 = .ok (.iload_n 1, 1) := by decide +kernel
theorem dX9_code_24 : decode cX9_code 24 = .ok (.iaload, 1) := by decide +kernel
theorem dX9_code_25 : decode cX9_code 25 = .ok (.goto 28, 3) := by decide +kernel
theorem dX9_code_28 : decode cX9_code 28 = .ok (.iload_n 2, 1) := by decide +kernel
theorem dX9_code_29 : decode cX9_code 29 = .ok (.aload_n 0, 1) := by decide +kernel
theorem dX9_code_30 : decode cX9_code 30 = .ok (.getfield 32, 3) := by decide +kernel
theorem dX9_code_33 : decode cX9_code 33 = .ok (.iload_n 1, 1) := by decide +kernel
theorem dX9_code_34 : decode cX9_code 34 = .ok (.iaload, 1) := by decide +kernel
theorem dX9_code_35 : decode cX9_code 35 = .ok (.if_icmp .ge 16, 3) := by decide +kernel
theorem dX9_code_38 : decode cX9_code 38 = .ok (.aload_n 0, 1) := by decide +kernel
theorem dX9_code_39 : decode cX9_code 39 = .ok (.getfield 35, 3) := by decide +kernel
theorem dX9_code_42 : decode cX9_code 42 = .ok (.iconst 4, 1) := by decide +kernel
theorem dX9_code_43 : decode cX9_code 43 = .ok (.iload_n 1, 1) := by decide +kernel
theorem dX9_code_44 : decode cX9_code 44 = .ok (.imul, 1) := by decide +kernel
theorem dX9_code_45 : decode cX9_code 45 = .ok (.iload_n 2, 1) := by decide +kernel
theorem dX9_code_46 : decode cX9_code 46 = .ok (.iadd, 1) := by decide +kernel
theorem dX9_code_47 : decode cX9_code 47 = .ok (.iaload, 1) := by decide +kernel
theorem dX9_code_48 : decode cX9_code 48 = .ok (.goto 5, 3) := by decide +kernel
theorem dX9_code_51 : decode cX9_code 51 = .ok (.bipush (-9), 2) := by decide +kernel
theorem dX9_code_53 : decode cX9_code 53 = .ok (.ireturn, 1) := by decide +kernel
theorem dX9_asNumber_0 : decode cX9_asNumber 0 = .ok (.iconst 0, 1) := by decide +kernel
theorem dX9_asNumber_1 : decode cX9_asNumber 1 = .ok (.istore_n 2, 1) := by decide +kernel
theorem dX9_asNumber_2 : decode cX9_asNumber 2 = .ok (.iconst 0, 1) := by decide +kernel
theorem dX9_asNumber_3 : decode cX9_asNumber 3 = .ok (.istore_n 3, 1) := by decide +kernel
theorem dX9_asNumber_4 : decode cX9_asNumber 4 = .ok (.iload_n 3, 1) := by decide +kernel
theorem dX9_asNumber_5 : decode cX9_asNumber 5 = .ok (.iconst 4, 1) := by decide +kernel
theorem dX9_asNumber_6 : decode cX9_asNumber 6 = .ok (.if_icmp .ge 41, 3) := by decide +kernel
theorem dX9_asNumber_9 : decode cX9_asNumber 9 = .ok (.bipush 9, 2) := by decide +kernel
theorem dX9_asNumber_11 : decode cX9_asNumber 11 = .ok (.iload_n 2, 1) := by decide +kernel
theorem dX9_asNumber_12 : decode cX9_asNumber 12 = .ok (.imul, 1) := by decide +kernel
theorem dX9_asNumber_13 : decode cX9_asNumber 13 = .ok (.iload_n 3, 1) := by decide +kernel
theorem dX9_asNumber_14 : decode cX9_asNumber 14 = .ok (.aload_n 0, 1) := by decide +kernel
theorem dX9_asNumber_15 : decode cX9_asNumber 15 = .ok (.getfield 32, 3) := by decide +kernel
theorem dX9_asNumber_18 : decode cX9_asNumber 18 = .ok (.iload_n 1, 1) := by decide +kernel
theorem dX9_asNumber_19 : decode cX9_asNumber 19 = .ok (.iaload, 1) := by decide +kernel
theorem dX9_asNumber_20 : decode cX9_asNumber 20 = .ok (.if_icmp .ge 18, 3) := by decide +kernel
theorem dX9_asNumber_23 : decode cX9_asNumber 23 = .ok (.aload_n 0, 1) := by decide +kernel
theorem dX9_asNumber_24 : decode cX9_asNumber 24 = .ok (.getfield 35, 3) := by decide +kernel
theorem dX9_asNumber_27 : decode cX9_asNumber 27 = .ok (.iconst 4, 1) := by decide +kernel
theorem dX9_asNumber_28 : decode cX9_asNumber 28 = .ok (.iload_n 1, 1) := by decide +kernel
theorem dX9_asNumber_29 : decode cX9_asNumber 29 = .ok (.imul, 1) := by decide +kernel
theorem dX9_asNumber_30 : decode cX9_asNumber 30 = .ok (.iload_n 3, 1) := by decide +kernel
theorem dX9_asNumber_31 : decode cX9_asNumber 31 = .ok (.iadd, 1) := by decide +kernel
theorem dX9_asNumber_32 : decode cX9_asNumber 32 = .ok (.iaload, 1) := by decide +kernel
theorem dX9_asNumber_33 : decode cX9_asNumber 33 = .ok (.iconst 1, 1) := by decide +kernel
theorem dX9_asNumber_34 : decode cX9_asNumber 34 = .ok (.iadd, 1) := by decide +kernel
theorem dX9_asNumber_35 : decode cX9_asNumber 35 = .ok (.goto 4, 3) := by decide +kernel
theorem dX9_asNumber_38 : decode cX9_asNumber 38 = .ok (.iconst 0, 1) := by decide +kernel
theorem dX9_asNumber_39 : decode cX9_asNumber 39 = .ok (.iadd, 1) := by decide +kernel
theorem dX9_asNumber_40 : decode cX9_asNumber 40 = .ok (.istore_n 2, 1) := by decide +kernel
theorem dX9_asNumber_41 : decode cX9_asNumber 41 = .ok (.iinc 3 1, 3) := by decide +kernel
theorem dX9_asNumber_44 : decode cX9_asNumber 44 = .ok (.goto (-40), 3) := by decide +kernel
theorem dX9_asNumber_47 : decode cX9_asNumber 47 = .ok (.iload_n 2, 1) := by decide +kernel
theorem dX9_asNumber_48 : decode cX9_asNumber 48 = .ok (.ireturn, 1) := by decide +kernel
theorem dX9_atRank_0 : decode cX9_atRank 0 = .ok (.iconst 0, 1) := by decide +kernel
theorem dX9_atRank_1 : decode cX9_atRank 1 = .ok (.istore_n 2, 1) := by decide +kernel
theorem dX9_atRank_2 : decode cX9_atRank 2 = .ok (.iload_n 2, 1) := by decide +kernel
theorem dX9_atRank_3 : decode cX9_atRank 3 = .ok (.aload_n 0, 1) := by decide +kernel
theorem dX9_atRank_4 : decode cX9_atRank 4 = .ok (.getfield 145, 3) := by decide +kernel
theorem dX9_atRank_7 : decode cX9_atRank 7 = .ok (.if_icmp .ge 58, 3) := by decide +kernel
theorem dX9_atRank_10 : decode cX9_atRank 10 = .ok (.iconst 0, 1) := by decide +kernel
theorem dX9_atRank_11 : decode cX9_atRank 11 = .ok (.istore_n 3, 1) := by decide +kernel
theorem dX9_atRank_12 : decode cX9_atRank 12 = .ok (.iconst 0, 1) := by decide +kernel
theorem dX9_atRank_13 : decode cX9_atRank 13 = .ok (.istore 4, 2) := by decide +kernel
theorem dX9_atRank_15 : decode cX9_atRank 15 = .ok (.iload 4, 2) := by decide +kernel
theorem dX9_atRank_17 : decode cX9_atRank 17 = .ok (.aload_n 0, 1) := by decide +kernel
theorem dX9_atRank_18 : decode cX9_atRank 18 = .ok (.getfield 145, 3) := by decide +kernel
theorem dX9_atRank_21 : decode cX9_atRank 21 = .ok (.if_icmp .ge 31, 3) := by decide +kernel
theorem dX9_atRank_24 : decode cX9_atRank 24 = .ok (.iload_n 3, 1) := by decide +kernel
theorem dX9_atRank_25 : decode cX9_atRank 25 = .ok (.aload_n 0, 1) := by decide +kernel
theorem dX9_atRank_26 : decode cX9_atRank 26 = .ok (.iload 4, 2) := by decide +kernel
theorem dX9_atRank_28 : decode cX9_atRank 28 = .ok (.invokevirtual 156, 3) := by decide +kernel
theorem dX9_atRank_31 : decode cX9_atRank 31 = .ok (.aload_n 0, 1) := by decide +kernel
theorem dX9_atRank_32 : decode cX9_atRank 32 = .ok (.iload_n 2, 1) := by decide +kernel
theorem dX9_atRank_33 : decode cX9_atRank 33 = .ok (.invokevirtual 156, 3) := by decide +kernel
theorem dX9_atRank_36 : decode cX9_atRank 36 = .ok (.if_icmp .ge 7, 3) := by decide +kernel
theorem dX9_atRank_39 : decode cX9_atRank 39 = .ok (.iconst 1, 1) := by decide +kernel
theorem dX9_atRank_40 : decode cX9_atRank 40 = .ok (.goto 4, 3) := by decide +kernel
theorem dX9_atRank_43 : decode cX9_atRank 43 = .ok (.iconst 0, 1) := by decide +kernel
theorem dX9_atRank_44 : decode cX9_atRank 44 = .ok (.iadd, 1) := by decide +kernel
theorem dX9_atRank_45 : decode cX9_atRank 45 = .ok (.istore_n 3, 1) := by decide +kernel
theorem dX9_atRank_46 : decode cX9_atRank 46 = .ok (.iinc 4 1, 3) := by decide +kernel
theorem dX9_atRank_49 : decode cX9_atRank 49 = .ok (.goto (-34), 3) := by decide +kernel
theorem dX9_atRank_52 : decode cX9_atRank 52 = .ok (.iload_n 3, 1) := by decide +kernel
theorem dX9_atRank_53 : decode cX9_atRank 53 = .ok (.iload_n 1, 1) := by decide +kernel
theorem dX9_atRank_54 : decode cX9_atRank 54 = .ok (.if_icmp .ne 5, 3) := by decide +kernel
theorem dX9_atRank_57 : decode cX9_atRank 57 = .ok (.iload_n 2, 1) := by decide +kernel
theorem dX9_atRank_58 : decode cX9_atRank 58 = .ok (.ireturn, 1) := by decide +kernel
theorem dX9_atRank_59 : decode cX9_atRank 59 = .ok (.iinc 2 1, 3) := by decide +kernel
theorem dX9_atRank_62 : decode cX9_atRank 62 = .ok (.goto (-60), 3) := by decide +kernel
theorem dX9_atRank_65 : decode cX9_atRank 65 = .ok (.bipush (-9), 2) := by decide +kernel
theorem dX9_atRank_67 : decode cX9_atRank 67 = .ok (.ireturn, 1) := by decide +kernel
theorem dX9_sorted_0 : decode cX9_sorted 0 = .ok (.iload_n 1, 1) := by decide +kernel
theorem dX9_sorted_1 : decode cX9_sorted 1 = .ok (.ifCond .ge 7, 3) := by decide +kernel
theorem dX9_sorted_4 : decode cX9_sorted 4 = .ok (.iconst (-1), 1) := by decide +kernel
theorem dX9_sorted_5 : decode cX9_sorted 5 = .ok (.goto 8, 3) := by decide +kernel
theorem dX9_sorted_8 : decode cX9_sorted 8 = .ok (.aload_n 0, 1) := by decide +kernel
theorem dX9_sorted_9 : decode cX9_sorted 9 = .ok (.iload_n 1, 1) := by decide +kernel
theorem dX9_sorted_10 : decode cX9_sorted 10 = .ok (.invokevirtual 160, 3) := by decide +kernel
theorem dX9_sorted_13 : decode cX9_sorted 13 = .ok (.ireturn, 1) := by decide +kernel
theorem dX9_first_0 : decode cX9_first 0 = .ok (.iload_n 1, 1) := by decide +kernel
theorem dX9_first_1 : decode cX9_first 1 = .ok (.i2l, 1) := by decide +kernel
theorem dX9_first_2 : decode cX9_first 2 = .ok (.lconst 0, 1) := by decide +kernel
theorem dX9_first_3 : decode cX9_first 3 = .ok (.ldc2_w 151, 3) := by decide +kernel
theorem dX9_first_6 : decode cX9_first 6 = .ok (.invokestatic 78, 3) := by decide +kernel
theorem dX9_first_9 : decode cX9_first 9 = .ok (.ifCond .ne 5, 3) := by decide +kernel
theorem dX9_first_12 : decode cX9_first 12 = .ok (.iconst (-1), 1) := by decide +kernel
theorem dX9_first_13 : decode cX9_first 13 = .ok (.ireturn, 1) := by decide +kernel
theorem dX9_first_14 : decode cX9_first 14 = .ok (.iconst 0, 1) := by decide +kernel
theorem dX9_first_15 : decode cX9_first 15 = .ok (.istore_n 2, 1) := by decide +kernel
theorem dX9_first_16 : decode cX9_first 16 = .ok (.iconst 0, 1) := by decide +kernel
theorem dX9_first_17 : decode cX9_first 17 = .ok (.istore_n 3, 1) := by decide +kernel
theorem dX9_first_18 : decode cX9_first 18 = .ok (.iload_n 3, 1) := by decide +kernel
theorem dX9_first_19 : decode cX9_first 19 = .ok (.aload_n 0, 1) := by decide +kernel
theorem dX9_first_20 : decode cX9_first 20 = .ok (.getfield 145, 3) := by decide +kernel
theorem dX9_first_23 : decode cX9_first 23 = .ok (.if_icmp .ge 29, 3) := by decide +kernel
theorem dX9_first_26 : decode cX9_first 26 = .ok (.iload_n 2, 1) := by decide +kernel
theorem dX9_first_27 : decode cX9_first 27 = .ok (.aload_n 0, 1) := by decide +kernel
theorem dX9_first_28 : decode cX9_first 28 = .ok (.getfield 35, 3) := by decide +kernel
theorem dX9_first_31 : decode cX9_first 31 = .ok (.iconst 4, 1) := by decide +kernel
theorem dX9_first_32 : decode cX9_first 32 = .ok (.iload_n 3, 1) := by decide +kernel
theorem dX9_first_33 : decode cX9_first 33 = .ok (.imul, 1) := by decide +kernel
theorem dX9_first_34 : decode cX9_first 34 = .ok (.iaload, 1) := by decide +kernel
theorem dX9_first_35 : decode cX9_first 35 = .ok (.iload_n 1, 1) := by decide +kernel
theorem dX9_first_36 : decode cX9_first 36 = .ok (.if_icmp .ge 7, 3) := by decide +kernel
theorem dX9_first_39 : decode cX9_first 39 = .ok (.iconst 1, 1) := by decide +kernel
theorem dX9_first_40 : decode cX9_first 40 = .ok (.goto 4, 3) := by decide +kernel
theorem dX9_first_43 : decode cX9_first 43 = .ok (.iconst 0, 1) := by decide +kernel
theorem dX9_first_44 : decode cX9_first 44 = .ok (.iadd, 1) := by decide +kernel
theorem dX9_first_45 : decode cX9_first 45 = .ok (.istore_n 2, 1) := by decide +kernel
theorem dX9_first_46 : decode cX9_first 46 = .ok (.iinc 3 1, 3) := by decide +kernel
theorem dX9_first_49 : decode cX9_first 49 = .ok (.goto (-31), 3) := by decide +kernel
theorem dX9_first_52 : decode cX9_first 52 = .ok (.aload_n 0, 1) := by decide +kernel
theorem dX9_first_53 : decode cX9_first 53 = .ok (.iload_n 2, 1) := by decide +kernel
theorem dX9_first_54 : decode cX9_first 54 = .ok (.invokevirtual 160, 3) := by decide +kernel
theorem dX9_first_57 : decode cX9_first 57 = .ok (.ireturn, 1) := by decide +kernel
theorem dX9_shownFor_0 : decode cX9_shownFor 0 = .ok (.iconst 0, 1) := by decide +kernel
theorem dX9_shownFor_1 : decode cX9_shownFor 1 = .ok (.istore 4, 2) := by decide +kernel
theorem dX9_shownFor_3 : decode cX9_shownFor 3 = .ok (.bipush (-9), 2) := by decide +kernel
theorem dX9_shownFor_5 : decode cX9_shownFor 5 = .ok (.istore 5, 2) := by decide +kernel
theorem dX9_shownFor_7 : decode cX9_shownFor 7 = .ok (.iload_n 2, 1) := by decide +kernel
theorem dX9_shownFor_8 : decode cX9_shownFor 8 = .ok (.iconst 1, 1) := by decide +kernel
theorem dX9_shownFor_9 : decode cX9_shownFor 9 = .ok (.isub, 1) := by decide +kernel
theorem dX9_shownFor_10 : decode cX9_shownFor 10 = .ok (.istore 6, 2) := by decide +kernel
theorem dX9_shownFor_12 : decode cX9_shownFor 12 = .ok (.iload 6, 2) := by decide +kernel
theorem dX9_shownFor_14 : decode cX9_shownFor 14 = .ok (.ifCond .lt 70, 3) := by decide +kernel
theorem dX9_shownFor_17 : decode cX9_shownFor 17 = .ok (.iload 4, 2) := by decide +kernel
theorem dX9_shownFor_19 : decode cX9_shownFor 19 = .ok (.ifCond .ne 14, 3) := by decide +kernel
theorem dX9_shownFor_22 : decode cX9_shownFor 22 = .ok (.aload_n 0, 1) := by decide +kernel
theorem dX9_shownFor_23 : decode cX9_shownFor 23 = .ok (.getfield 56, 3) := by decide +kernel
theorem dX9_shownFor_26 : decode cX9_shownFor 26 = .ok (.iload 6, 2) := by decide +kernel
theorem dX9_shownFor_28 : decode cX9_shownFor 28 = .ok (.iaload, 1) := by decide +kernel
theorem dX9_shownFor_29 : decode cX9_shownFor 29 = .ok (.iload_n 1, 1) := by decide +kernel
theorem dX9_shownFor_30 : decode cX9_shownFor 30 = .ok (.if_icmp .ne 7, 3) := by decide +kernel
theorem dX9_shownFor_33 : decode cX9_shownFor 33 = .ok (.iconst 1, 1) := by decide +kernel
theorem dX9_shownFor_34 : decode cX9_shownFor 34 = .ok (.goto 4, 3) := by decide +kernel
theorem dX9_shownFor_37 : decode cX9_shownFor 37 = .ok (.iconst 0, 1) := by decide +kernel
theorem dX9_shownFor_38 : decode cX9_shownFor 38 = .ok (.istore 4, 2) := by decide +kernel
theorem dX9_shownFor_40 : decode cX9_shownFor 40 = .ok (.iload 6, 2) := by decide +kernel
theorem dX9_shownFor_42 : decode cX9_shownFor 42 = .ok (.iconst 3, 1) := by decide +kernel
theorem dX9_shownFor_43 : decode cX9_shownFor 43 = .ok (.if_icmp .ge 31, 3) := by decide +kernel
theorem dX9_shownFor_46 : decode cX9_shownFor 46 = .ok (.aload_n 0, 1) := by decide +kernel
theorem dX9_shownFor_47 : decode cX9_shownFor 47 = .ok (.getfield 56, 3) := by decide +kernel
theorem dX9_shownFor_50 : decode cX9_shownFor 50 = .ok (.iload 6, 2) := by decide +kernel
theorem dX9_shownFor_52 : decode cX9_shownFor 52 = .ok (.iaload, 1) := by decide +kernel
theorem dX9_shownFor_53 : decode cX9_shownFor 53 = .ok (.iload_n 1, 1) := by decide +kernel
theorem dX9_shownFor_54 : decode cX9_shownFor 54 = .ok (.if_icmp .ne 20, 3) := by decide +kernel
theorem dX9_shownFor_57 : decode cX9_shownFor 57 = .ok (.iload_n 3, 1) := by decide +kernel
theorem dX9_shownFor_58 : decode cX9_shownFor 58 = .ok (.iload 6, 2) := by decide +kernel
theorem dX9_shownFor_60 : decode cX9_shownFor 60 = .ok (.ishr, 1) := by decide +kernel
theorem dX9_shownFor_61 : decode cX9_shownFor 61 = .ok (.iconst 1, 1) := by decide +kernel
theorem dX9_shownFor_62 : decode cX9_shownFor 62 = .ok (.iand, 1) := by decide +kernel
theorem dX9_shownFor_63 : decode cX9_shownFor 63 = .ok (.ifCond .ne 11, 3) := by decide +kernel
theorem dX9_shownFor_66 : decode cX9_shownFor 66 = .ok (.bipush 11, 2) := by decide +kernel
theorem dX9_shownFor_68 : decode cX9_shownFor 68 = .ok (.iload 6, 2) := by decide +kernel
theorem dX9_shownFor_70 : decode cX9_shownFor 70 = .ok (.iadd, 1) := by decide +kernel
theorem dX9_shownFor_71 : decode cX9_shownFor 71 = .ok (.goto 5, 3) := by decide +kernel
theorem dX9_shownFor_74 : decode cX9_shownFor 74 = .ok (.iload 5, 2) := by decide +kernel
theorem dX9_shownFor_76 : decode cX9_shownFor 76 = .ok (.istore 5, 2) := by decide +kernel
theorem dX9_shownFor_78 : decode cX9_shownFor 78 = .ok (.iinc 6 (-1), 3) := by decide +kernel
theorem dX9_shownFor_81 : decode cX9_shownFor 81 = .ok (.goto (-69), 3) := by decide +kernel
theorem dX9_shownFor_84 : decode cX9_shownFor 84 = .ok (.iload 4, 2) := by decide +kernel
theorem dX9_shownFor_86 : decode cX9_shownFor 86 = .ok (.ifCond .eq 8, 3) := by decide +kernel
theorem dX9_shownFor_89 : decode cX9_shownFor 89 = .ok (.iload 5, 2) := by decide +kernel
theorem dX9_shownFor_91 : decode cX9_shownFor 91 = .ok (.goto 4, 3) := by decide +kernel
theorem dX9_shownFor_94 : decode cX9_shownFor 94 = .ok (.iload_n 1, 1) := by decide +kernel
theorem dX9_shownFor_95 : decode cX9_shownFor 95 = .ok (.ireturn, 1) := by decide +kernel
theorem dX9_shows_0 : decode cX9_shows 0 = .ok (.iconst 0, 1) := by decide +kernel
theorem dX9_shows_1 : decode cX9_shows 1 = .ok (.istore_n 3, 1) := by decide +kernel
theorem dX9_shows_2 : decode cX9_shows 2 = .ok (.iconst 0, 1) := by decide +kernel
theorem dX9_shows_3 : decode cX9_shows 3 = .ok (.istore 4, 2) := by decide +kernel
theorem dX9_shows_5 : decode cX9_shows 5 = .ok (.iconst 0, 1) := by decide +kernel
theorem dX9_shows_6 : decode cX9_shows 6 = .ok (.istore 5, 2) := by decide +kernel
theorem dX9_shows_8 : decode cX9_shows 8 = .ok (.iload_n 1, 1) := by decide +kernel
theorem dX9_shows_9 : decode cX9_shows 9 = .ok (.istore 6, 2) := by decide +kernel
theorem dX9_shows_11 : decode cX9_shows 11 = .ok (.iload 6, 2) := by decide +kernel
theorem dX9_shows_13 : decode cX9_shows 13 = .ok (.iload_n 2, 1) := by decide +kernel
theorem dX9_shows_14 : decode cX9_shows 14 = .ok (.if_icmp .ge 175, 3) := by decide +kernel
theorem dX9_shows_17 : decode cX9_shows 17 = .ok (.iload 6, 2) := by decide +kernel
theorem dX9_shows_19 : decode cX9_shows 19 = .ok (.iload_n 1, 1) := by decide +kernel
theorem dX9_shows_20 : decode cX9_shows 20 = .ok (.if_icmp .ne 7, 3) := by decide +kernel
theorem dX9_shows_23 : decode cX9_shows 23 = .ok (.iconst 0, 1) := by decide +kernel
theorem dX9_shows_24 : decode cX9_shows 24 = .ok (.goto 4, 3) := by decide +kernel
theorem dX9_shows_27 : decode cX9_shows 27 = .ok (.iconst (-1), 1) := by decide +kernel
theorem dX9_shows_28 : decode cX9_shows 28 = .ok (.istore 7, 2) := by decide +kernel
theorem dX9_shows_30 : decode cX9_shows 30 = .ok (.iload 7, 2) := by decide +kernel
theorem dX9_shows_32 : decode cX9_shows 32 = .ok (.aload_n 0, 1) := by decide +kernel
theorem dX9_shows_33 : decode cX9_shows 33 = .ok (.getfield 32, 3) := by decide +kernel
theorem dX9_shows_36 : decode cX9_shows 36 = .ok (.aload_n 0, 1) := by decide +kernel
theorem dX9_shows_37 : decode cX9_shows 37 = .ok (.getfield 50, 3) := by decide +kernel
theorem dX9_shows_40 : decode cX9_shows 40 = .ok (.iload 6, 2) := by decide +kernel
theorem dX9_shows_42 : decode cX9_shows 42 = .ok (.iaload, 1) := by decide +kernel
theorem dX9_shows_43 : decode cX9_shows 43 = .ok (.iaload, 1) := by decide +kernel
theorem dX9_shows_44 : decode cX9_shows 44 = .ok (.if_icmp .ge 139, 3) := by decide +kernel
theorem dX9_shows_47 : decode cX9_shows 47 = .ok (.iload 7, 2) := by decide +kernel
theorem dX9_shows_49 : decode cX9_shows 49 = .ok (.ifCond .ge 8, 3) := by decide +kernel
theorem dX9_shows_52 : decode cX9_shows 52 = .ok (.bipush (-9), 2) := by decide +kernel
theorem dX9_shows_54 : decode cX9_shows 54 = .ok (.goto 20, 3) := by decide +kernel
theorem dX9_shows_57 : decode cX9_shows 57 = .ok (.aload_n 0, 1) := by decide +kernel
theorem dX9_shows_58 : decode cX9_shows 58 = .ok (.getfield 35, 3) := by decide +kernel
theorem dX9_shows_61 : decode cX9_shows 61 = .ok (.iconst 4, 1) := by decide +kernel
theorem dX9_shows_62 : decode cX9_shows 62 = .ok (.aload_n 0, 1) := by decide +kernel
theorem dX9_shows_63 : decode cX9_shows 63 = .ok (.getfield 50, 3) := by decide +kernel
theorem dX9_shows_66 : decode cX9_shows 66 = .ok (.iload 6, 2) := by decide +kernel
theorem dX9_shows_68 : decode cX9_shows 68 = .ok (.iaload, 1) := by decide +kernel
theorem dX9_shows_69 : decode cX9_shows 69 = .ok (.imul, 1) := by decide +kernel
theorem dX9_shows_70 : decode cX9_shows 70 = .ok (.iload 7, 2) := by decide +kernel
theorem dX9_shows_72 : decode cX9_shows 72 = .ok (.iadd, 1) := by decide +kernel
theorem dX9_shows_73 : decode cX9_shows 73 = .ok (.iaload, 1) := by decide +kernel
theorem dX9_shows_74 : decode cX9_shows 74 = .ok (.istore 8, 2) := by decide +kernel
theorem dX9_shows_76 : decode cX9_shows 76 = .ok (.iload 7, 2) := by decide +kernel
theorem dX9_shows_78 : decode cX9_shows 78 = .ok (.ifCond .ge 8, 3) := by decide +kernel
theorem dX9_shows_81 : decode cX9_shows 81 = .ok (.bipush 20, 2) := by decide +kernel
theorem dX9_shows_83 : decode cX9_shows 83 = .ok (.goto 13, 3) := by decide +kernel
theorem dX9_shows_86 : decode cX9_shows 86 = .ok (.aload_n 0, 1) := by decide +kernel
theorem dX9_shows_87 : decode cX9_shows 87 = .ok (.iload 8, 2) := by decide +kernel
theorem dX9_shows_89 : decode cX9_shows 89 = .ok (.iload 4, 2) := by decide +kernel
theorem dX9_shows_91 : decode cX9_shows 91 = .ok (.iload 5, 2) := by decide +kernel
theorem dX9_shows_93 : decode cX9_shows 93 = .ok (.invokevirtual 163, 3) := by decide +kernel
theorem dX9_shows_96 : decode cX9_shows 96 = .ok (.istore 9, 2) := by decide +kernel
theorem dX9_shows_98 : decode cX9_shows 98 = .ok (.iload_n 3, 1) := by decide +kernel
theorem dX9_shows_99 : decode cX9_shows 99 = .ok (.aload_n 0, 1) := by decide +kernel
theorem dX9_shows_100 : decode cX9_shows 100 = .ok (.getfield 7, 3) := by decide +kernel
theorem dX9_shows_103 : decode cX9_shows 103 = .ok (.bipush 9, 2) := by decide +kernel
theorem dX9_shows_105 : decode cX9_shows 105 = .ok (.iaload, 1) := by decide +kernel
theorem dX9_shows_106 : decode cX9_shows 106 = .ok (.if_icmp .eq 10, 3) := by decide +kernel
theorem dX9_shows_109 : decode cX9_shows 109 = .ok (.iload 9, 2) := by decide +kernel
theorem dX9_shows_111 : decode cX9_shows 111 = .ok (.bipush (-9), 2) := by decide +kernel
theorem dX9_shows_113 : decode cX9_shows 113 = .ok (.if_icmp .ne 6, 3) := by decide +kernel
theorem dX9_shows_116 : decode cX9_shows 116 = .ok (.bipush (-9), 2) := by decide +kernel
theorem dX9_shows_118 : decode cX9_shows 118 = .ok (.ireturn, 1) := by decide +kernel
theorem dX9_shows_119 : decode cX9_shows 119 = .ok (.aload_n 0, 1) := by decide +kernel
theorem dX9_shows_120 : decode cX9_shows 120 = .ok (.getfield 53, 3) := by decide +kernel
theorem dX9_shows_123 : decode cX9_shows 123 = .ok (.iload_n 3, 1) := by decide +kernel
theorem dX9_shows_124 : decode cX9_shows 124 = .ok (.iload 9, 2) := by decide +kernel
theorem dX9_shows_126 : decode cX9_shows 126 = .ok (.iastore, 1) := by decide +kernel
theorem dX9_shows_127 : decode cX9_shows 127 = .ok (.iinc 3 1, 3) := by decide +kernel
theorem dX9_shows_130 : decode cX9_shows 130 = .ok (.iload 5, 2) := by decide +kernel
end
section
/-! decode rows -/
theorem dX9_shows_132 : decode cX9_shows 132 = .ok (.iload 9, 2) := by decide +kernel
theorem dX9_shows_134 : decode cX9_shows 134 = .ok (.bipush 10, 2) := by decide +kernel
theorem dX9_shows_136 : decode cX9_shows 136 = .ok (.if_icmp .le 20, 3) := by decide +kernel
theorem dX9_shows_139 : decode cX9_shows 139 = .ok (.iload 9, 2) := by decide +kernel
theorem dX9_shows_141 : decode cX9_shows 141 = .ok (.bipush 20, 2) := by decide +kernel
theorem dX9_shows_143 : decode cX9_shows 143 = .ok (.if_icmp .ge 13, 3) := by decide +kernel
theorem dX9_shows_146 : decode cX9_shows 146 = .ok (.iconst 1, 1) := by decide +kernel
theorem dX9_shows_147 : decode cX9_shows 147 = .ok (.iload 9, 2) := by decide +kernel
theorem dX9_shows_149 : decode cX9_shows 149 = .ok (.bipush 11, 2) := by decide +kernel
theorem dX9_shows_151 : decode cX9_shows 151 = .ok (.isub, 1) := by decide +kernel
theorem dX9_shows_152 : decode cX9_shows 152 = .ok (.ishl, 1) := by decide +kernel
theorem dX9_shows_153 : decode cX9_shows 153 = .ok (.goto 4, 3) := by decide +kernel
theorem dX9_shows_156 : decode cX9_shows 156 = .ok (.iconst 0, 1) := by decide +kernel
theorem dX9_shows_157 : decode cX9_shows 157 = .ok (.ior, 1) := by decide +kernel
theorem dX9_shows_158 : decode cX9_shows 158 = .ok (.istore 5, 2) := by decide +kernel
theorem dX9_shows_160 : decode cX9_shows 160 = .ok (.iload 7, 2) := by decide +kernel
theorem dX9_shows_162 : decode cX9_shows 162 = .ok (.ifCond .lt 15, 3) := by decide +kernel
theorem dX9_shows_165 : decode cX9_shows 165 = .ok (.aload_n 0, 1) := by decide +kernel
theorem dX9_shows_166 : decode cX9_shows 166 = .ok (.getfield 56, 3) := by decide +kernel
theorem dX9_shows_169 : decode cX9_shows 169 = .ok (.iload 4, 2) := by decide +kernel
theorem dX9_shows_171 : decode cX9_shows 171 = .ok (.iload 8, 2) := by decide +kernel
theorem dX9_shows_173 : decode cX9_shows 173 = .ok (.iastore, 1) := by decide +kernel
theorem dX9_shows_174 : decode cX9_shows 174 = .ok (.iinc 4 1, 3) := by decide +kernel
theorem dX9_shows_177 : decode cX9_shows 177 = .ok (.iinc 7 1, 3) := by decide +kernel
theorem dX9_shows_180 : decode cX9_shows 180 = .ok (.goto (-150), 3) := by decide +kernel
theorem dX9_shows_183 : decode cX9_shows 183 = .ok (.iinc 6 1, 3) := by decide +kernel
theorem dX9_shows_186 : decode cX9_shows 186 = .ok (.goto (-175), 3) := by decide +kernel
theorem dX9_shows_189 : decode cX9_shows 189 = .ok (.iload_n 3, 1) := by decide +kernel
theorem dX9_shows_190 : decode cX9_shows 190 = .ok (.ireturn, 1) := by decide +kernel
theorem dX9_cutBy_0 : decode cX9_cutBy 0 = .ok (.iconst 0, 1) := by decide +kernel
theorem dX9_cutBy_1 : decode cX9_cutBy 1 = .ok (.istore_n 2, 1) := by decide +kernel
theorem dX9_cutBy_2 : decode cX9_cutBy 2 = .ok (.iconst 0, 1) := by decide +kernel
theorem dX9_cutBy_3 : decode cX9_cutBy 3 = .ok (.istore_n 3, 1) := by decide +kernel
theorem dX9_cutBy_4 : decode cX9_cutBy 4 = .ok (.iconst 1, 1) := by decide +kernel
theorem dX9_cutBy_5 : decode cX9_cutBy 5 = .ok (.istore 4, 2) := by decide +kernel
theorem dX9_cutBy_7 : decode cX9_cutBy 7 = .ok (.iload 4, 2) := by decide +kernel
theorem dX9_cutBy_9 : decode cX9_cutBy 9 = .ok (.aload_n 0, 1) := by decide +kernel
theorem dX9_cutBy_10 : decode cX9_cutBy 10 = .ok (.getfield 167, 3) := by decide +kernel
theorem dX9_cutBy_13 : decode cX9_cutBy 13 = .ok (.if_icmp .gt 63, 3) := by decide +kernel
theorem dX9_cutBy_16 : decode cX9_cutBy 16 = .ok (.iload 4, 2) := by decide +kernel
theorem dX9_cutBy_18 : decode cX9_cutBy 18 = .ok (.aload_n 0, 1) := by decide +kernel
theorem dX9_cutBy_19 : decode cX9_cutBy 19 = .ok (.getfield 167, 3) := by decide +kernel
theorem dX9_cutBy_22 : decode cX9_cutBy 22 = .ok (.if_icmp .eq 20, 3) := by decide +kernel
theorem dX9_cutBy_25 : decode cX9_cutBy 25 = .ok (.iload_n 1, 1) := by decide +kernel
theorem dX9_cutBy_26 : decode cX9_cutBy 26 = .ok (.aload_n 0, 1) := by decide +kernel
theorem dX9_cutBy_27 : decode cX9_cutBy 27 = .ok (.getfield 167, 3) := by decide +kernel
theorem dX9_cutBy_30 : decode cX9_cutBy 30 = .ok (.iconst 1, 1) := by decide +kernel
theorem dX9_cutBy_31 : decode cX9_cutBy 31 = .ok (.isub, 1) := by decide +kernel
theorem dX9_cutBy_32 : decode cX9_cutBy 32 = .ok (.iload 4, 2) := by decide +kernel
theorem dX9_cutBy_34 : decode cX9_cutBy 34 = .ok (.isub, 1) := by decide +kernel
theorem dX9_cutBy_35 : decode cX9_cutBy 35 = .ok (.ishr, 1) := by decide +kernel
theorem dX9_cutBy_36 : decode cX9_cutBy 36 = .ok (.iconst 1, 1) := by decide +kernel
theorem dX9_cutBy_37 : decode cX9_cutBy 37 = .ok (.iand, 1) := by decide +kernel
theorem dX9_cutBy_38 : decode cX9_cutBy 38 = .ok (.iconst 1, 1) := by decide +kernel
theorem dX9_cutBy_39 : decode cX9_cutBy 39 = .ok (.if_icmp .ne 31, 3) := by decide +kernel
theorem dX9_cutBy_42 : decode cX9_cutBy 42 = .ok (.aload_n 0, 1) := by decide +kernel
theorem dX9_cutBy_43 : decode cX9_cutBy 43 = .ok (.iload_n 3, 1) := by decide +kernel
theorem dX9_cutBy_44 : decode cX9_cutBy 44 = .ok (.iload 4, 2) := by decide +kernel
theorem dX9_cutBy_46 : decode cX9_cutBy 46 = .ok (.invokevirtual 170, 3) := by decide +kernel
theorem dX9_cutBy_49 : decode cX9_cutBy 49 = .ok (.bipush (-9), 2) := by decide +kernel
theorem dX9_cutBy_51 : decode cX9_cutBy 51 = .ok (.if_icmp .ne 6, 3) := by decide +kernel
theorem dX9_cutBy_54 : decode cX9_cutBy 54 = .ok (.bipush (-9), 2) := by decide +kernel
theorem dX9_cutBy_56 : decode cX9_cutBy 56 = .ok (.ireturn, 1) := by decide +kernel
theorem dX9_cutBy_57 : decode cX9_cutBy 57 = .ok (.aload_n 0, 1) := by decide +kernel
theorem dX9_cutBy_58 : decode cX9_cutBy 58 = .ok (.getfield 59, 3) := by decide +kernel
theorem dX9_cutBy_61 : decode cX9_cutBy 61 = .ok (.iload_n 2, 1) := by decide +kernel
theorem dX9_cutBy_62 : decode cX9_cutBy 62 = .ok (.iload_n 3, 1) := by decide +kernel
theorem dX9_cutBy_63 : decode cX9_cutBy 63 = .ok (.iastore, 1) := by decide +kernel
theorem dX9_cutBy_64 : decode cX9_cutBy 64 = .ok (.iinc 2 1, 3) := by decide +kernel
theorem dX9_cutBy_67 : decode cX9_cutBy 67 = .ok (.iload 4, 2) := by decide +kernel
theorem dX9_cutBy_69 : decode cX9_cutBy 69 = .ok (.istore_n 3, 1) := by decide +kernel
theorem dX9_cutBy_70 : decode cX9_cutBy 70 = .ok (.iinc 4 1, 3) := by decide +kernel
theorem dX9_cutBy_73 : decode cX9_cutBy 73 = .ok (.goto (-66), 3) := by decide +kernel
theorem dX9_cutBy_76 : decode cX9_cutBy 76 = .ok (.aload_n 0, 1) := by decide +kernel
theorem dX9_cutBy_77 : decode cX9_cutBy 77 = .ok (.getfield 59, 3) := by decide +kernel
theorem dX9_cutBy_80 : decode cX9_cutBy 80 = .ok (.iload_n 2, 1) := by decide +kernel
theorem dX9_cutBy_81 : decode cX9_cutBy 81 = .ok (.aload_n 0, 1) := by decide +kernel
theorem dX9_cutBy_82 : decode cX9_cutBy 82 = .ok (.getfield 167, 3) := by decide +kernel
theorem dX9_cutBy_85 : decode cX9_cutBy 85 = .ok (.iastore, 1) := by decide +kernel
theorem dX9_cutBy_86 : decode cX9_cutBy 86 = .ok (.iload_n 2, 1) := by decide +kernel
theorem dX9_cutBy_87 : decode cX9_cutBy 87 = .ok (.ireturn, 1) := by decide +kernel
theorem dX9_makes_0 : decode cX9_makes 0 = .ok (.aload_n 0, 1) := by decide +kernel
theorem dX9_makes_1 : decode cX9_makes 1 = .ok (.iconst 0, 1) := by decide +kernel
theorem dX9_makes_2 : decode cX9_makes 2 = .ok (.putfield 167, 3) := by decide +kernel
theorem dX9_makes_5 : decode cX9_makes 5 = .ok (.iconst 0, 1) := by decide +kernel
theorem dX9_makes_6 : decode cX9_makes 6 = .ok (.istore_n 2, 1) := by decide +kernel
theorem dX9_makes_7 : decode cX9_makes 7 = .ok (.iload_n 2, 1) := by decide +kernel
theorem dX9_makes_8 : decode cX9_makes 8 = .ok (.aload_n 0, 1) := by decide +kernel
theorem dX9_makes_9 : decode cX9_makes 9 = .ok (.getfield 7, 3) := by decide +kernel
theorem dX9_makes_12 : decode cX9_makes 12 = .ok (.iconst 0, 1) := by decide +kernel
theorem dX9_makes_13 : decode cX9_makes 13 = .ok (.iaload, 1) := by decide +kernel
theorem dX9_makes_14 : decode cX9_makes 14 = .ok (.if_icmp .ge 41, 3) := by decide +kernel
theorem dX9_makes_17 : decode cX9_makes 17 = .ok (.iload_n 2, 1) := by decide +kernel
theorem dX9_makes_18 : decode cX9_makes 18 = .ok (.iload_n 1, 1) := by decide +kernel
theorem dX9_makes_19 : decode cX9_makes 19 = .ok (.if_icmp .eq 30, 3) := by decide +kernel
theorem dX9_makes_22 : decode cX9_makes 22 = .ok (.aload_n 0, 1) := by decide +kernel
theorem dX9_makes_23 : decode cX9_makes 23 = .ok (.getfield 50, 3) := by decide +kernel
theorem dX9_makes_26 : decode cX9_makes 26 = .ok (.aload_n 0, 1) := by decide +kernel
theorem dX9_makes_27 : decode cX9_makes 27 = .ok (.getfield 167, 3) := by decide +kernel
theorem dX9_makes_30 : decode cX9_makes 30 = .ok (.aload_n 0, 1) := by decide +kernel
theorem dX9_makes_31 : decode cX9_makes 31 = .ok (.getfield 7, 3) := by decide +kernel
theorem dX9_makes_34 : decode cX9_makes 34 = .ok (.iconst 1, 1) := by decide +kernel
theorem dX9_makes_35 : decode cX9_makes 35 = .ok (.iload_n 2, 1) := by decide +kernel
theorem dX9_makes_36 : decode cX9_makes 36 = .ok (.iadd, 1) := by decide +kernel
theorem dX9_makes_37 : decode cX9_makes 37 = .ok (.iaload, 1) := by decide +kernel
theorem dX9_makes_38 : decode cX9_makes 38 = .ok (.iastore, 1) := by decide +kernel
theorem dX9_makes_39 : decode cX9_makes 39 = .ok (.aload_n 0, 1) := by decide +kernel
theorem dX9_makes_40 : decode cX9_makes 40 = .ok (.dup, 1) := by decide +kernel
theorem dX9_makes_41 : decode cX9_makes 41 = .ok (.getfield 167, 3) := by decide +kernel
theorem dX9_makes_44 : decode cX9_makes 44 = .ok (.iconst 1, 1) := by decide +kernel
theorem dX9_makes_45 : decode cX9_makes 45 = .ok (.iadd, 1) := by decide +kernel
theorem dX9_makes_46 : decode cX9_makes 46 = .ok (.putfield 167, 3) := by decide +kernel
theorem dX9_makes_49 : decode cX9_makes 49 = .ok (.iinc 2 1, 3) := by decide +kernel
theorem dX9_makes_52 : decode cX9_makes 52 = .ok (.goto (-45), 3) := by decide +kernel
theorem dX9_makes_55 : decode cX9_makes 55 = .ok (.aload_n 0, 1) := by decide +kernel
theorem dX9_makes_56 : decode cX9_makes 56 = .ok (.bipush (-9), 2) := by decide +kernel
theorem dX9_makes_58 : decode cX9_makes 58 = .ok (.putfield 174, 3) := by decide +kernel
theorem dX9_makes_61 : decode cX9_makes 61 = .ok (.iconst 0, 1) := by decide +kernel
theorem dX9_makes_62 : decode cX9_makes 62 = .ok (.istore_n 2, 1) := by decide +kernel
theorem dX9_makes_63 : decode cX9_makes 63 = .ok (.aload_n 0, 1) := by decide +kernel
theorem dX9_makes_64 : decode cX9_makes 64 = .ok (.getfield 167, 3) := by decide +kernel
theorem dX9_makes_67 : decode cX9_makes 67 = .ok (.ifCond .ne 7, 3) := by decide +kernel
theorem dX9_makes_70 : decode cX9_makes 70 = .ok (.iconst 1, 1) := by decide +kernel
theorem dX9_makes_71 : decode cX9_makes 71 = .ok (.goto 11, 3) := by decide +kernel
theorem dX9_makes_74 : decode cX9_makes 74 = .ok (.iconst 1, 1) := by decide +kernel
theorem dX9_makes_75 : decode cX9_makes 75 = .ok (.aload_n 0, 1) := by decide +kernel
theorem dX9_makes_76 : decode cX9_makes 76 = .ok (.getfield 167, 3) := by decide +kernel
theorem dX9_makes_79 : decode cX9_makes 79 = .ok (.iconst 1, 1) := by decide +kernel
theorem dX9_makes_80 : decode cX9_makes 80 = .ok (.isub, 1) := by decide +kernel
theorem dX9_makes_81 : decode cX9_makes 81 = .ok (.ishl, 1) := by decide +kernel
theorem dX9_makes_82 : decode cX9_makes 82 = .ok (.istore_n 3, 1) := by decide +kernel
theorem dX9_makes_83 : decode cX9_makes 83 = .ok (.iconst 0, 1) := by decide +kernel
theorem dX9_makes_84 : decode cX9_makes 84 = .ok (.istore 4, 2) := by decide +kernel
theorem dX9_makes_86 : decode cX9_makes 86 = .ok (.iload 4, 2) := by decide +kernel
theorem dX9_makes_88 : decode cX9_makes 88 = .ok (.iload_n 3, 1) := by decide +kernel
theorem dX9_makes_89 : decode cX9_makes 89 = .ok (.if_icmp .ge 51, 3) := by decide +kernel
theorem dX9_makes_92 : decode cX9_makes 92 = .ok (.aload_n 0, 1) := by decide +kernel
theorem dX9_makes_93 : decode cX9_makes 93 = .ok (.iload 4, 2) := by decide +kernel
theorem dX9_makes_95 : decode cX9_makes 95 = .ok (.invokevirtual 177, 3) := by decide +kernel
theorem dX9_makes_98 : decode cX9_makes 98 = .ok (.istore 5, 2) := by decide +kernel
theorem dX9_makes_100 : decode cX9_makes 100 = .ok (.iload 5, 2) := by decide +kernel
theorem dX9_makes_102 : decode cX9_makes 102 = .ok (.bipush (-9), 2) := by decide +kernel
theorem dX9_makes_104 : decode cX9_makes 104 = .ok (.if_icmp .eq 30, 3) := by decide +kernel
theorem dX9_makes_107 : decode cX9_makes 107 = .ok (.aload_n 0, 1) := by decide +kernel
theorem dX9_makes_108 : decode cX9_makes 108 = .ok (.getfield 174, 3) := by decide +kernel
theorem dX9_makes_111 : decode cX9_makes 111 = .ok (.bipush (-9), 2) := by decide +kernel
theorem dX9_makes_113 : decode cX9_makes 113 = .ok (.if_icmp .eq 12, 3) := by decide +kernel
theorem dX9_makes_116 : decode cX9_makes 116 = .ok (.iload 5, 2) := by decide +kernel
theorem dX9_makes_118 : decode cX9_makes 118 = .ok (.aload_n 0, 1) := by decide +kernel
theorem dX9_makes_119 : decode cX9_makes 119 = .ok (.getfield 174, 3) := by decide +kernel
theorem dX9_makes_122 : decode cX9_makes 122 = .ok (.if_icmp .ge 12, 3) := by decide +kernel
theorem dX9_makes_125 : decode cX9_makes 125 = .ok (.aload_n 0, 1) := by decide +kernel
theorem dX9_makes_126 : decode cX9_makes 126 = .ok (.iload 5, 2) := by decide +kernel
theorem dX9_makes_128 : decode cX9_makes 128 = .ok (.putfield 174, 3) := by decide +kernel
theorem dX9_makes_131 : decode cX9_makes 131 = .ok (.iload 4, 2) := by decide +kernel
theorem dX9_makes_133 : decode cX9_makes 133 = .ok (.istore_n 2, 1) := by decide +kernel
theorem dX9_makes_134 : decode cX9_makes 134 = .ok (.iinc 4 1, 3) := by decide +kernel
theorem dX9_makes_137 : decode cX9_makes 137 = .ok (.goto (-51), 3) := by decide +kernel
theorem dX9_makes_140 : decode cX9_makes 140 = .ok (.aload_n 0, 1) := by decide +kernel
theorem dX9_makes_141 : decode cX9_makes 141 = .ok (.getfield 174, 3) := by decide +kernel
theorem dX9_makes_144 : decode cX9_makes 144 = .ok (.bipush (-9), 2) := by decide +kernel
theorem dX9_makes_146 : decode cX9_makes 146 = .ok (.if_icmp .eq 9, 3) := by decide +kernel
theorem dX9_makes_149 : decode cX9_makes 149 = .ok (.aload_n 0, 1) := by decide +kernel
theorem dX9_makes_150 : decode cX9_makes 150 = .ok (.iload_n 2, 1) := by decide +kernel
theorem dX9_makes_151 : decode cX9_makes 151 = .ok (.invokevirtual 177, 3) := by decide +kernel
theorem dX9_makes_154 : decode cX9_makes 154 = .ok (.pop, 1) := by decide +kernel
theorem dX9_makes_155 : decode cX9_makes 155 = .ok (.return_, 1) := by decide +kernel
theorem dX9_things_0 : decode cX9_things 0 = .ok (.iload_n 1, 1) := by decide +kernel
theorem dX9_things_1 : decode cX9_things 1 = .ok (.i2l, 1) := by decide +kernel
theorem dX9_things_2 : decode cX9_things 2 = .ok (.lconst 0, 1) := by decide +kernel
theorem dX9_things_3 : decode cX9_things 3 = .ok (.aload_n 0, 1) := by decide +kernel
theorem dX9_things_4 : decode cX9_things 4 = .ok (.getfield 174, 3) := by decide +kernel
theorem dX9_things_7 : decode cX9_things 7 = .ok (.iconst 1, 1) := by decide +kernel
theorem dX9_things_8 : decode cX9_things 8 = .ok (.isub, 1) := by decide +kernel
theorem dX9_things_9 : decode cX9_things 9 = .ok (.i2l, 1) := by decide +kernel
theorem dX9_things_10 : decode cX9_things 10 = .ok (.invokestatic 78, 3) := by decide +kernel
theorem dX9_things_13 : decode cX9_things 13 = .ok (.ifCond .eq 24, 3) := by decide +kernel
theorem dX9_things_16 : decode cX9_things 16 = .ok (.aload_n 0, 1) := by decide +kernel
theorem dX9_things_17 : decode cX9_things 17 = .ok (.aload_n 0, 1) := by decide +kernel
theorem dX9_things_18 : decode cX9_things 18 = .ok (.getfield 59, 3) := by decide +kernel
theorem dX9_things_21 : decode cX9_things 21 = .ok (.iload_n 1, 1) := by decide +kernel
theorem dX9_things_22 : decode cX9_things 22 = .ok (.iaload, 1) := by decide +kernel
theorem dX9_things_23 : decode cX9_things 23 = .ok (.aload_n 0, 1) := by decide +kernel
theorem dX9_things_24 : decode cX9_things 24 = .ok (.getfield 59, 3) := by decide +kernel
theorem dX9_things_27 : decode cX9_things 27 = .ok (.iload_n 1, 1) := by decide +kernel
theorem dX9_things_28 : decode cX9_things 28 = .ok (.iconst 1, 1) := by decide +kernel
theorem dX9_things_29 : decode cX9_things 29 = .ok (.iadd, 1) := by decide +kernel
theorem dX9_things_30 : decode cX9_things 30 = .ok (.iaload, 1) := by decide +kernel
theorem dX9_things_31 : decode cX9_things 31 = .ok (.invokevirtual 170, 3) := by decide +kernel
theorem dX9_things_34 : decode cX9_things 34 = .ok (.goto 5, 3) := by decide +kernel
theorem dX9_things_37 : decode cX9_things 37 = .ok (.bipush (-9), 2) := by decide +kernel
theorem dX9_things_39 : decode cX9_things 39 = .ok (.ireturn, 1) := by decide +kernel
theorem dX9_message_0 : decode cX9_message 0 = .ok (.iload_n 1, 1) := by decide +kernel
theorem dX9_message_1 : decode cX9_message 1 = .ok (.i2l, 1) := by decide +kernel
theorem dX9_message_2 : decode cX9_message 2 = .ok (.lconst 0, 1) := by decide +kernel
theorem dX9_message_3 : decode cX9_message 3 = .ok (.aload_n 0, 1) := by decide +kernel
theorem dX9_message_4 : decode cX9_message 4 = .ok (.getfield 7, 3) := by decide +kernel
theorem dX9_message_7 : decode cX9_message 7 = .ok (.iconst 0, 1) := by decide +kernel
theorem dX9_message_8 : decode cX9_message 8 = .ok (.iaload, 1) := by decide +kernel
theorem dX9_message_9 : decode cX9_message 9 = .ok (.iconst 1, 1) := by decide +kernel
theorem dX9_message_10 : decode cX9_message 10 = .ok (.isub, 1) := by decide +kernel
theorem dX9_message_11 : decode cX9_message 11 = .ok (.i2l, 1) := by decide +kernel
theorem dX9_message_12 : decode cX9_message 12 = .ok (.invokestatic 78, 3) := by decide +kernel
theorem dX9_message_15 : decode cX9_message 15 = .ok (.ifCond .eq 14, 3) := by decide +kernel
theorem dX9_message_18 : decode cX9_message 18 = .ok (.aload_n 0, 1) := by decide +kernel
theorem dX9_message_19 : decode cX9_message 19 = .ok (.getfield 7, 3) := by decide +kernel
theorem dX9_message_22 : decode cX9_message 22 = .ok (.iconst 1, 1) := by decide +kernel
theorem dX9_message_23 : decode cX9_message 23 = .ok (.iload_n 1, 1) := by decide +kernel
theorem dX9_message_24 : decode cX9_message 24 = .ok (.iadd, 1) := by decide +kernel
theorem dX9_message_25 : decode cX9_message 25 = .ok (.iaload, 1) := by decide +kernel
theorem dX9_message_26 : decode cX9_message 26 = .ok (.goto 4, 3) := by decide +kernel
theorem dX9_message_29 : decode cX9_message 29 = .ok (.iconst (-1), 1) := by decide +kernel
theorem dX9_message_30 : decode cX9_message 30 = .ok (.ireturn, 1) := by decide +kernel
theorem dX9_hoist_0 : decode cX9_hoist 0 = .ok (.iload_n 1, 1) := by decide +kernel
theorem dX9_hoist_1 : decode cX9_hoist 1 = .ok (.ifCond .lt 15, 3) := by decide +kernel
theorem dX9_hoist_4 : decode cX9_hoist 4 = .ok (.iload_n 2, 1) := by decide +kernel
theorem dX9_hoist_5 : decode cX9_hoist 5 = .ok (.i2l, 1) := by decide +kernel
theorem dX9_hoist_6 : decode cX9_hoist 6 = .ok (.lconst 0, 1) := by decide +kernel
theorem dX9_hoist_7 : decode cX9_hoist 7 = .ok (.ldc2_w 180, 3) := by decide +kernel
theorem dX9_hoist_10 : decode cX9_hoist 10 = .ok (.invokestatic 78, 3) := by decide +kernel
theorem dX9_hoist_13 : decode cX9_hoist 13 = .ok (.ifCond .ne 5, 3) := by decide +kernel
theorem dX9_hoist_16 : decode cX9_hoist 16 = .ok (.iconst (-1), 1) := by decide +kernel
theorem dX9_hoist_17 : decode cX9_hoist 17 = .ok (.ireturn, 1) := by decide +kernel
theorem dX9_hoist_18 : decode cX9_hoist 18 = .ok (.aload_n 0, 1) := by decide +kernel
theorem dX9_hoist_19 : decode cX9_hoist 19 = .ok (.bipush (-9), 2) := by decide +kernel
theorem dX9_hoist_21 : decode cX9_hoist 21 = .ok (.invokevirtual 182, 3) := by decide +kernel
theorem dX9_hoist_24 : decode cX9_hoist 24 = .ok (.aload_n 0, 1) := by decide +kernel
theorem dX9_hoist_25 : decode cX9_hoist 25 = .ok (.iload_n 1, 1) := by decide +kernel
theorem dX9_hoist_26 : decode cX9_hoist 26 = .ok (.invokevirtual 186, 3) := by decide +kernel
theorem dX9_hoist_29 : decode cX9_hoist 29 = .ok (.istore_n 3, 1) := by decide +kernel
theorem dX9_hoist_30 : decode cX9_hoist 30 = .ok (.iload_n 3, 1) := by decide +kernel
theorem dX9_hoist_31 : decode cX9_hoist 31 = .ok (.bipush (-9), 2) := by decide +kernel
theorem dX9_hoist_33 : decode cX9_hoist 33 = .ok (.if_icmp .eq 8, 3) := by decide +kernel
theorem dX9_hoist_36 : decode cX9_hoist 36 = .ok (.iload_n 2, 1) := by decide +kernel
theorem dX9_hoist_37 : decode cX9_hoist 37 = .ok (.iconst 2, 1) := by decide +kernel
theorem dX9_hoist_38 : decode cX9_hoist 38 = .ok (.if_icmp .ne 5, 3) := by decide +kernel
theorem dX9_hoist_41 : decode cX9_hoist 41 = .ok (.iload_n 3, 1) := by decide +kernel
theorem dX9_hoist_42 : decode cX9_hoist 42 = .ok (.ireturn, 1) := by decide +kernel
theorem dX9_hoist_43 : decode cX9_hoist 43 = .ok (.iconst 0, 1) := by decide +kernel
theorem dX9_hoist_44 : decode cX9_hoist 44 = .ok (.istore 4, 2) := by decide +kernel
theorem dX9_hoist_46 : decode cX9_hoist 46 = .ok (.iconst 0, 1) := by decide +kernel
theorem dX9_hoist_47 : decode cX9_hoist 47 = .ok (.istore 5, 2) := by decide +kernel
theorem dX9_hoist_49 : decode cX9_hoist 49 = .ok (.iload 5, 2) := by decide +kernel
theorem dX9_hoist_51 : decode cX9_hoist 51 = .ok (.iload_n 3, 1) := by decide +kernel
theorem dX9_hoist_52 : decode cX9_hoist 52 = .ok (.if_icmp .ge 39, 3) := by decide +kernel
theorem dX9_hoist_55 : decode cX9_hoist 55 = .ok (.iload 4, 2) := by decide +kernel
theorem dX9_hoist_57 : decode cX9_hoist 57 = .ok (.aload_n 0, 1) := by decide +kernel
theorem dX9_hoist_58 : decode cX9_hoist 58 = .ok (.getfield 53, 3) := by decide +kernel
theorem dX9_hoist_61 : decode cX9_hoist 61 = .ok (.iload 5, 2) := by decide +kernel
theorem dX9_hoist_63 : decode cX9_hoist 63 = .ok (.iaload, 1) := by decide +kernel
theorem dX9_hoist_64 : decode cX9_hoist 64 = .ok (.i2l, 1) := by decide +kernel
theorem dX9_hoist_65 : decode cX9_hoist 65 = .ok (.ldc2_w 189, 3) := by decide +kernel
theorem dX9_hoist_68 : decode cX9_hoist 68 = .ok (.ldc2_w 191, 3) := by decide +kernel
theorem dX9_hoist_71 : decode cX9_hoist 71 = .ok (.invokestatic 78, 3) := by decide +kernel
theorem dX9_hoist_74 : decode cX9_hoist 74 = .ok (.ifCond .eq 7, 3) := by decide +kernel
theorem dX9_hoist_77 : decode cX9_hoist 77 = .ok (.iconst 1, 1) := by decide +kernel
theorem dX9_hoist_78 : decode cX9_hoist 78 = .ok (.goto 4, 3) := by decide +kernel
theorem dX9_hoist_81 : decode cX9_hoist 81 = .ok (.iconst 0, 1) := by decide +kernel
theorem dX9_hoist_82 : decode cX9_hoist 82 = .ok (.iadd, 1) := by decide +kernel
theorem dX9_hoist_83 : decode cX9_hoist 83 = .ok (.istore 4, 2) := by decide +kernel
theorem dX9_hoist_85 : decode cX9_hoist 85 = .ok (.iinc 5 1, 3) := by decide +kernel
theorem dX9_hoist_88 : decode cX9_hoist 88 = .ok (.goto (-39), 3) := by decide +kernel
theorem dX9_hoist_91 : decode cX9_hoist 91 = .ok (.iload_n 2, 1) := by decide +kernel
theorem dX9_hoist_92 : decode cX9_hoist 92 = .ok (.ifCond .ne 12, 3) := by decide +kernel
theorem dX9_hoist_95 : decode cX9_hoist 95 = .ok (.aload_n 0, 1) := by decide +kernel
theorem dX9_hoist_96 : decode cX9_hoist 96 = .ok (.getfield 59, 3) := by decide +kernel
theorem dX9_hoist_99 : decode cX9_hoist 99 = .ok (.iload_n 1, 1) := by decide +kernel
theorem dX9_hoist_100 : decode cX9_hoist 100 = .ok (.iaload, 1) := by decide +kernel
theorem dX9_hoist_101 : decode cX9_hoist 101 = .ok (.goto 28, 3) := by decide +kernel
theorem dX9_hoist_104 : decode cX9_hoist 104 = .ok (.iload_n 2, 1) := by decide +kernel
theorem dX9_hoist_105 : decode cX9_hoist 105 = .ok (.iconst 1, 1) := by decide +kernel
theorem dX9_hoist_106 : decode cX9_hoist 106 = .ok (.if_icmp .ne 21, 3) := by decide +kernel
theorem dX9_hoist_109 : decode cX9_hoist 109 = .ok (.aload_n 0, 1) := by decide +kernel
theorem dX9_hoist_110 : decode cX9_hoist 110 = .ok (.getfield 59, 3) := by decide +kernel
theorem dX9_hoist_113 : decode cX9_hoist 113 = .ok (.iload_n 1, 1) := by decide +kernel
theorem dX9_hoist_114 : decode cX9_hoist 114 = .ok (.iconst 1, 1) := by decide +kernel
theorem dX9_hoist_115 : decode cX9_hoist 115 = .ok (.iadd, 1) := by decide +kernel
theorem dX9_hoist_116 : decode cX9_hoist 116 = .ok (.iaload, 1) := by decide +kernel
theorem dX9_hoist_117 : decode cX9_hoist 117 = .ok (.aload_n 0, 1) := by decide +kernel
theorem dX9_hoist_118 : decode cX9_hoist 118 = .ok (.getfield 59, 3) := by decide +kernel
theorem dX9_hoist_121 : decode cX9_hoist 121 = .ok (.iload_n 1, 1) := by decide +kernel
theorem dX9_hoist_122 : decode cX9_hoist 122 = .ok (.iaload, 1) := by decide +kernel
theorem dX9_hoist_123 : decode cX9_hoist 123 = .ok (.isub, 1) := by decide +kernel
theorem dX9_hoist_124 : decode cX9_hoist 124 = .ok (.goto 5, 3) := by decide +kernel
theorem dX9_hoist_127 : decode cX9_hoist 127 = .ok (.iload 4, 2) := by decide +kernel
theorem dX9_hoist_129 : decode cX9_hoist 129 = .ok (.ireturn, 1) := by decide +kernel
theorem dX9_thing_0 : decode cX9_thing 0 = .ok (.iload_n 1, 1) := by decide +kernel
theorem dX9_thing_1 : decode cX9_thing 1 = .ok (.ifCond .lt 7, 3) := by decide +kernel
theorem dX9_thing_4 : decode cX9_thing 4 = .ok (.iload_n 2, 1) := by decide +kernel
theorem dX9_thing_5 : decode cX9_thing 5 = .ok (.ifCond .ge 5, 3) := by decide +kernel
theorem dX9_thing_8 : decode cX9_thing 8 = .ok (.iconst (-1), 1) := by decide +kernel
theorem dX9_thing_9 : decode cX9_thing 9 = .ok (.ireturn, 1) := by decide +kernel
theorem dX9_thing_10 : decode cX9_thing 10 = .ok (.aload_n 0, 1) := by decide +kernel
theorem dX9_thing_11 : decode cX9_thing 11 = .ok (.bipush (-9), 2) := by decide +kernel
theorem dX9_thing_13 : decode cX9_thing 13 = .ok (.invokevirtual 182, 3) := by decide +kernel
theorem dX9_thing_16 : decode cX9_thing 16 = .ok (.aload_n 0, 1) := by decide +kernel
theorem dX9_thing_17 : decode cX9_thing 17 = .ok (.iload_n 1, 1) := by decide +kernel
theorem dX9_thing_18 : decode cX9_thing 18 = .ok (.invokevirtual 186, 3) := by decide +kernel
theorem dX9_thing_21 : decode cX9_thing 21 = .ok (.istore_n 3, 1) := by decide +kernel
theorem dX9_thing_22 : decode cX9_thing 22 = .ok (.iload_n 3, 1) := by decide +kernel
theorem dX9_thing_23 : decode cX9_thing 23 = .ok (.bipush (-9), 2) := by decide +kernel
theorem dX9_thing_25 : decode cX9_thing 25 = .ok (.if_icmp .eq 17, 3) := by decide +kernel
theorem dX9_thing_28 : decode cX9_thing 28 = .ok (.iload_n 2, 1) := by decide +kernel
theorem dX9_thing_29 : decode cX9_thing 29 = .ok (.iload_n 3, 1) := by decide +kernel
theorem dX9_thing_30 : decode cX9_thing 30 = .ok (.if_icmp .ge 12, 3) := by decide +kernel
theorem dX9_thing_33 : decode cX9_thing 33 = .ok (.aload_n 0, 1) := by decide +kernel
theorem dX9_thing_34 : decode cX9_thing 34 = .ok (.getfield 53, 3) := by decide +kernel
theorem dX9_thing_37 : decode cX9_thing 37 = .ok (.iload_n 2, 1) := by decide +kernel
theorem dX9_thing_38 : decode cX9_thing 38 = .ok (.iaload, 1) := by decide +kernel
theorem dX9_thing_39 : decode cX9_thing 39 = .ok (.goto 5, 3) := by decide +kernel
theorem dX9_thing_42 : decode cX9_thing 42 = .ok (.bipush (-9), 2) := by decide +kernel
theorem dX9_thing_44 : decode cX9_thing 44 = .ok (.ireturn, 1) := by decide +kernel
theorem dX9_none_0 : decode cX9_none 0 = .ok (.aload_n 0, 1) := by decide +kernel
theorem dX9_none_1 : decode cX9_none 1 = .ok (.getfield 7, 3) := by decide +kernel
theorem dX9_none_4 : decode cX9_none 4 = .ok (.bipush 10, 2) := by decide +kernel
theorem dX9_none_6 : decode cX9_none 6 = .ok (.iconst 0, 1) := by decide +kernel
theorem dX9_none_7 : decode cX9_none 7 = .ok (.iastore, 1) := by decide +kernel
theorem dX9_none_8 : decode cX9_none 8 = .ok (.aload_n 0, 1) := by decide +kernel
theorem dX9_none_9 : decode cX9_none 9 = .ok (.getfield 7, 3) := by decide +kernel
theorem dX9_none_12 : decode cX9_none 12 = .ok (.bipush 11, 2) := by decide +kernel
theorem dX9_none_14 : decode cX9_none 14 = .ok (.iconst 0, 1) := by decide +kernel
theorem dX9_none_15 : decode cX9_none 15 = .ok (.iastore, 1) := by decide +kernel
theorem dX9_none_16 : decode cX9_none 16 = .ok (.return_, 1) := by decide +kernel
theorem dX9_puts_0 : decode cX9_puts 0 = .ok (.iload_n 1, 1) := by decide +kernel
theorem dX9_puts_1 : decode cX9_puts 1 = .ok (.i2l, 1) := by decide +kernel
theorem dX9_puts_2 : decode cX9_puts 2 = .ok (.lconst 0, 1) := by decide +kernel
theorem dX9_puts_3 : decode cX9_puts 3 = .ok (.aload_n 0, 1) := by decide +kernel
theorem dX9_puts_4 : decode cX9_puts 4 = .ok (.getfield 7, 3) := by decide +kernel
theorem dX9_puts_7 : decode cX9_puts 7 = .ok (.iconst 0, 1) := by decide +kernel
theorem dX9_puts_8 : decode cX9_puts 8 = .ok (.iaload, 1) := by decide +kernel
theorem dX9_puts_9 : decode cX9_puts 9 = .ok (.i2l, 1) := by decide +kernel
theorem dX9_puts_10 : decode cX9_puts 10 = .ok (.invokestatic 78, 3) := by decide +kernel
theorem dX9_puts_13 : decode cX9_puts 13 = .ok (.ifCond .eq 11, 3) := by decide +kernel
theorem dX9_puts_16 : decode cX9_puts 16 = .ok (.aload_n 0, 1) := by decide +kernel
theorem dX9_puts_17 : decode cX9_puts 17 = .ok (.iload_n 2, 1) := by decide +kernel
theorem dX9_puts_18 : decode cX9_puts 18 = .ok (.invokevirtual 153, 3) := by decide +kernel
theorem dX9_puts_21 : decode cX9_puts 21 = .ok (.ifCond .ne 5, 3) := by decide +kernel
theorem dX9_puts_24 : decode cX9_puts 24 = .ok (.iconst (-1), 1) := by decide +kernel
theorem dX9_puts_25 : decode cX9_puts 25 = .ok (.ireturn, 1) := by decide +kernel
theorem dX9_puts_26 : decode cX9_puts 26 = .ok (.aload_n 0, 1) := by decide +kernel
theorem dX9_puts_27 : decode cX9_puts 27 = .ok (.getfield 7, 3) := by decide +kernel
theorem dX9_puts_30 : decode cX9_puts 30 = .ok (.iconst 0, 1) := by decide +kernel
theorem dX9_puts_31 : decode cX9_puts 31 = .ok (.iaload, 1) := by decide +kernel
theorem dX9_puts_32 : decode cX9_puts 32 = .ok (.bipush 8, 2) := by decide +kernel
theorem dX9_puts_34 : decode cX9_puts 34 = .ok (.if_icmp .ne 6, 3) := by decide +kernel
theorem dX9_puts_37 : decode cX9_puts 37 = .ok (.bipush (-3), 2) := by decide +kernel
theorem dX9_puts_39 : decode cX9_puts 39 = .ok (.ireturn, 1) := by decide +kernel
theorem dX9_puts_40 : decode cX9_puts 40 = .ok (.aload_n 0, 1) := by decide +kernel
theorem dX9_puts_41 : decode cX9_puts 41 = .ok (.invokevirtual 193, 3) := by decide +kernel
theorem dX9_puts_44 : decode cX9_puts 44 = .ok (.aload_n 0, 1) := by decide +kernel
theorem dX9_puts_45 : decode cX9_puts 45 = .ok (.getfield 7, 3) := by decide +kernel
theorem dX9_puts_48 : decode cX9_puts 48 = .ok (.iconst 0, 1) := by decide +kernel
theorem dX9_puts_49 : decode cX9_puts 49 = .ok (.iaload, 1) := by decide +kernel
theorem dX9_puts_50 : decode cX9_puts 50 = .ok (.istore_n 3, 1) := by decide +kernel
theorem dX9_puts_51 : decode cX9_puts 51 = .ok (.iload_n 3, 1) := by decide +kernel
theorem dX9_puts_52 : decode cX9_puts 52 = .ok (.iload_n 1, 1) := by decide +kernel
theorem dX9_puts_53 : decode cX9_puts 53 = .ok (.if_icmp .le 27, 3) := by decide +kernel
theorem dX9_puts_56 : decode cX9_puts 56 = .ok (.aload_n 0, 1) := by decide +kernel
theorem dX9_puts_57 : decode cX9_puts 57 = .ok (.getfield 7, 3) := by decide +kernel
theorem dX9_puts_60 : decode cX9_puts 60 = .ok (.iconst 1, 1) := by decide +kernel
theorem dX9_puts_61 : decode cX9_puts 61 = .ok (.iload_n 3, 1) := by decide +kernel
theorem dX9_puts_62 : decode cX9_puts 62 = .ok (.iadd, 1) := by decide +kernel
theorem dX9_puts_63 : decode cX9_puts 63 = .ok (.aload_n 0, 1) := by decide +kernel
theorem dX9_puts_64 : decode cX9_puts 64 = .ok (.getfield 7, 3) := by decide +kernel
theorem dX9_puts_67 : decode cX9_puts 67 = .ok (.iconst 1, 1) := by decide +kernel
theorem dX9_puts_68 : decode cX9_puts 68 = .ok (.iload_n 3, 1) := by decide +kernel
theorem dX9_puts_69 : decode cX9_puts 69 = .ok (.iadd, 1) := by decide +kernel
theorem dX9_puts_70 : decode cX9_puts 70 = .ok (.iconst 1, 1) := by decide +kernel
theorem dX9_puts_71 : decode cX9_puts 71 = .ok (.isub, 1) := by decide +kernel
theorem dX9_puts_72 : decode cX9_puts 72 = .ok (.iaload, 1) := by decide +kernel
theorem dX9_puts_73 : decode cX9_puts 73 = .ok (.iastore, 1) := by decide +kernel
theorem dX9_puts_74 : decode cX9_puts 74 = .ok (.iinc 3 (-1), 3) := by decide +kernel
theorem dX9_puts_77 : decode cX9_puts 77 = .ok (.goto (-26), 3) := by decide +kernel
theorem dX9_puts_80 : decode cX9_puts 80 = .ok (.aload_n 0, 1) := by decide +kernel
theorem dX9_puts_81 : decode cX9_puts 81 = .ok (.getfield 7, 3) := by decide +kernel
theorem dX9_puts_84 : decode cX9_puts 84 = .ok (.iconst 1, 1) := by decide +kernel
theorem dX9_puts_85 : decode cX9_puts 85 = .ok (.iload_n 1, 1) := by decide +kernel
theorem dX9_puts_86 : decode cX9_puts 86 = .ok (.iadd, 1) := by decide +kernel
theorem dX9_puts_87 : decode cX9_puts 87 = .ok (.iload_n 2, 1) := by decide +kernel
theorem dX9_puts_88 : decode cX9_puts 88 = .ok (.iastore, 1) := by decide +kernel
theorem dX9_puts_89 : decode cX9_puts 89 = .ok (.aload_n 0, 1) := by decide +kernel
theorem dX9_puts_90 : decode cX9_puts 90 = .ok (.getfield 7, 3) := by decide +kernel
theorem dX9_puts_93 : decode cX9_puts 93 = .ok (.iconst 0, 1) := by decide +kernel
theorem dX9_puts_94 : decode cX9_puts 94 = .ok (.dup2, 1) := by decide +kernel
theorem dX9_puts_95 : decode cX9_puts 95 = .ok (.iaload, 1) := by decide +kernel
theorem dX9_puts_96 : decode cX9_puts 96 = .ok (.iconst 1, 1) := by decide +kernel
theorem dX9_puts_97 : decode cX9_puts 97 = .ok (.iadd, 1) := by decide +kernel
theorem dX9_puts_98 : decode cX9_puts 98 = .ok (.iastore, 1) := by decide +kernel
theorem dX9_puts_99 : decode cX9_puts 99 = .ok (.aload_n 0, 1) := by decide +kernel
theorem dX9_puts_100 : decode cX9_puts 100 = .ok (.invokevirtual 196, 3) := by decide +kernel
theorem dX9_puts_103 : decode cX9_puts 103 = .ok (.aload_n 0, 1) := by decide +kernel
theorem dX9_puts_104 : decode cX9_puts 104 = .ok (.getfield 7, 3) := by decide +kernel
theorem dX9_puts_107 : decode cX9_puts 107 = .ok (.iconst 0, 1) := by decide +kernel
theorem dX9_puts_108 : decode cX9_puts 108 = .ok (.iaload, 1) := by decide +kernel
theorem dX9_puts_109 : decode cX9_puts 109 = .ok (.ireturn, 1) := by decide +kernel
theorem dX9_takes_0 : decode cX9_takes 0 = .ok (.iload_n 1, 1) := by decide +kernel
theorem dX9_takes_1 : decode cX9_takes 1 = .ok (.i2l, 1) := by decide +kernel
theorem dX9_takes_2 : decode cX9_takes 2 = .ok (.lconst 0, 1) := by decide +kernel
theorem dX9_takes_3 : decode cX9_takes 3 = .ok (.aload_n 0, 1) := by decide +kernel
theorem dX9_takes_4 : decode cX9_takes 4 = .ok (.getfield 7, 3) := by decide +kernel
theorem dX9_takes_7 : decode cX9_takes 7 = .ok (.iconst 0, 1) := by decide +kernel
theorem dX9_takes_8 : decode cX9_takes 8 = .ok (.iaload, 1) := by decide +kernel
theorem dX9_takes_9 : decode cX9_takes 9 = .ok (.iconst 1, 1) := by decide +kernel
theorem dX9_takes_10 : decode cX9_takes 10 = .ok (.isub, 1) := by decide +kernel
theorem dX9_takes_11 : decode cX9_takes 11 = .ok (.i2l, 1) := by decide +kernel
theorem dX9_takes_12 : decode cX9_takes 12 = .ok (.invokestatic 78, 3) := by decide +kernel
theorem dX9_takes_15 : decode cX9_takes 15 = .ok (.ifCond .ne 5, 3) := by decide +kernel
theorem dX9_takes_18 : decode cX9_takes 18 = .ok (.iconst (-1), 1) := by decide +kernel
theorem dX9_takes_19 : decode cX9_takes 19 = .ok (.ireturn, 1) := by decide +kernel
theorem dX9_takes_20 : decode cX9_takes 20 = .ok (.aload_n 0, 1) := by decide +kernel
theorem dX9_takes_21 : decode cX9_takes 21 = .ok (.invokevirtual 193, 3) := by decide +kernel
theorem dX9_takes_24 : decode cX9_takes 24 = .ok (.aload_n 0, 1) := by decide +kernel
theorem dX9_takes_25 : decode cX9_takes 25 = .ok (.getfield 7, 3) := by decide +kernel
theorem dX9_takes_28 : decode cX9_takes 28 = .ok (.iconst 1, 1) := by decide +kernel
theorem dX9_takes_29 : decode cX9_takes 29 = .ok (.iload_n 1, 1) := by decide +kernel
theorem dX9_takes_30 : decode cX9_takes 30 = .ok (.iadd, 1) := by decide +kernel
theorem dX9_takes_31 : decode cX9_takes 31 = .ok (.iaload, 1) := by decide +kernel
theorem dX9_takes_32 : decode cX9_takes 32 = .ok (.istore_n 2, 1) := by decide +kernel
theorem dX9_takes_33 : decode cX9_takes 33 = .ok (.aload_n 0, 1) := by decide +kernel
theorem dX9_takes_34 : decode cX9_takes 34 = .ok (.getfield 7, 3) := by decide +kernel
theorem dX9_takes_37 : decode cX9_takes 37 = .ok (.iconst 0, 1) := by decide +kernel
theorem dX9_takes_38 : decode cX9_takes 38 = .ok (.dup2, 1) := by decide +kernel
theorem dX9_takes_39 : decode cX9_takes 39 = .ok (.iaload, 1) := by decide +kernel
theorem dX9_takes_40 : decode cX9_takes 40 = .ok (.iconst 1, 1) := by decide +kernel
theorem dX9_takes_41 : decode cX9_takes 41 = .ok (.isub, 1) := by decide +kernel
theorem dX9_takes_42 : decode cX9_takes 42 = .ok (.iastore, 1) := by decide +kernel
theorem dX9_takes_43 : decode cX9_takes 43 = .ok (.iload_n 1, 1) := by decide +kernel
theorem dX9_takes_44 : decode cX9_takes 44 = .ok (.istore_n 3, 1) := by decide +kernel
theorem dX9_takes_45 : decode cX9_takes 45 = .ok (.iload_n 3, 1) := by decide +kernel
theorem dX9_takes_46 : decode cX9_takes 46 = .ok (.aload_n 0, 1) := by decide +kernel
theorem dX9_takes_47 : decode cX9_takes 47 = .ok (.getfield 7, 3) := by decide +kernel
theorem dX9_takes_50 : decode cX9_takes 50 = .ok (.iconst 0, 1) := by decide +kernel
theorem dX9_takes_51 : decode cX9_takes 51 = .ok (.iaload, 1) := by decide +kernel
theorem dX9_takes_52 : decode cX9_takes 52 = .ok (.if_icmp .ge 27, 3) := by decide +kernel
theorem dX9_takes_55 : decode cX9_takes 55 = .ok (.aload_n 0, 1) := by decide +kernel
theorem dX9_takes_56 : decode cX9_takes 56 = .ok (.getfield 7, 3) := by decide +kernel
theorem dX9_takes_59 : decode cX9_takes 59 = .ok (.iconst 1, 1) := by decide +kernel
theorem dX9_takes_60 : decode cX9_takes 60 = .ok (.iload_n 3, 1) := by decide +kernel
theorem dX9_takes_61 : decode cX9_takes 61 = .ok (.iadd, 1) := by decide +kernel
theorem dX9_takes_62 : decode cX9_takes 62 = .ok (.aload_n 0, 1) := by decide +kernel
theorem dX9_takes_63 : decode cX9_takes 63 = .ok (.getfield 7, 3) := by decide +kernel
theorem dX9_takes_66 : decode cX9_takes 66 = .ok (.iconst 1, 1) := by decide +kernel
theorem dX9_takes_67 : decode cX9_takes 67 = .ok (.iload_n 3, 1) := by decide +kernel
theorem dX9_takes_68 : decode cX9_takes 68 = .ok (.iadd, 1) := by decide +kernel
theorem dX9_takes_69 : decode cX9_takes 69 = .ok (.iconst 1, 1) := by decide +kernel
theorem dX9_takes_70 : decode cX9_takes 70 = .ok (.iadd, 1) := by decide +kernel
theorem dX9_takes_71 : decode cX9_takes 71 = .ok (.iaload, 1) := by decide +kernel
theorem dX9_takes_72 : decode cX9_takes 72 = .ok (.iastore, 1) := by decide +kernel
theorem dX9_takes_73 : decode cX9_takes 73 = .ok (.iinc 3 1, 3) := by decide +kernel
theorem dX9_takes_76 : decode cX9_takes 76 = .ok (.goto (-31), 3) := by decide +kernel
theorem dX9_takes_79 : decode cX9_takes 79 = .ok (.aload_n 0, 1) := by decide +kernel
theorem dX9_takes_80 : decode cX9_takes 80 = .ok (.invokevirtual 196, 3) := by decide +kernel
theorem dX9_takes_83 : decode cX9_takes 83 = .ok (.iload_n 2, 1) := by decide +kernel
theorem dX9_takes_84 : decode cX9_takes 84 = .ok (.ireturn, 1) := by decide +kernel
theorem dX9_places_0 : decode cX9_places 0 = .ok (.iload_n 1, 1) := by decide +kernel
theorem dX9_places_1 : decode cX9_places 1 = .ok (.i2l, 1) := by decide +kernel
theorem dX9_places_2 : decode cX9_places 2 = .ok (.ldc2_w 180, 3) := by decide +kernel
theorem dX9_places_5 : decode cX9_places 5 = .ok (.ldc2_w 151, 3) := by decide +kernel
theorem dX9_places_8 : decode cX9_places 8 = .ok (.invokestatic 78, 3) := by decide +kernel
theorem dX9_places_11 : decode cX9_places 11 = .ok (.ifCond .ne 5, 3) := by decide +kernel
theorem dX9_places_14 : decode cX9_places 14 = .ok (.iconst (-1), 1) := by decide +kernel
theorem dX9_places_15 : decode cX9_places 15 = .ok (.ireturn, 1) := by decide +kernel
theorem dX9_places_16 : decode cX9_places 16 = .ok (.aload_n 0, 1) := by decide +kernel
theorem dX9_places_17 : decode cX9_places 17 = .ok (.getfield 7, 3) := by decide +kernel
theorem dX9_places_20 : decode cX9_places 20 = .ok (.bipush 9, 2) := by decide +kernel
theorem dX9_places_22 : decode cX9_places 22 = .ok (.iaload, 1) := by decide +kernel
theorem dX9_places_23 : decode cX9_places 23 = .ok (.istore_n 2, 1) := by decide +kernel
theorem dX9_places_24 : decode cX9_places 24 = .ok (.iload_n 2, 1) := by decide +kernel
theorem dX9_places_25 : decode cX9_places 25 = .ok (.iload_n 1, 1) := by decide +kernel
theorem dX9_places_26 : decode cX9_places 26 = .ok (.if_icmp .ne 6, 3) := by decide +kernel
theorem dX9_places_29 : decode cX9_places 29 = .ok (.bipush (-2), 2) := by decide +kernel
theorem dX9_places_31 : decode cX9_places 31 = .ok (.ireturn, 1) := by decide +kernel
theorem dX9_places_32 : decode cX9_places 32 = .ok (.aload_n 0, 1) := by decide +kernel
theorem dX9_places_33 : decode cX9_places 33 = .ok (.invokevirtual 193, 3) := by decide +kernel
theorem dX9_places_36 : decode cX9_places 36 = .ok (.aload_n 0, 1) := by decide +kernel
theorem dX9_places_37 : decode cX9_places 37 = .ok (.getfield 7, 3) := by decide +kernel
theorem dX9_places_40 : decode cX9_places 40 = .ok (.bipush 9, 2) := by decide +kernel
theorem dX9_places_42 : decode cX9_places 42 = .ok (.iload_n 1, 1) := by decide +kernel
theorem dX9_places_43 : decode cX9_places 43 = .ok (.iastore, 1) := by decide +kernel
theorem dX9_places_44 : decode cX9_places 44 = .ok (.aload_n 0, 1) := by decide +kernel
theorem dX9_places_45 : decode cX9_places 45 = .ok (.invokevirtual 196, 3) := by decide +kernel
theorem dX9_places_48 : decode cX9_places 48 = .ok (.iload_n 2, 1) := by decide +kernel
theorem dX9_places_49 : decode cX9_places 49 = .ok (.ireturn, 1) := by decide +kernel
theorem dX9_sends_0 : decode cX9_sends 0 = .ok (.aload_n 0, 1) := by decide +kernel
theorem dX9_sends_1 : decode cX9_sends 1 = .ok (.bipush (-9), 2) := by decide +kernel
theorem dX9_sends_3 : decode cX9_sends 3 = .ok (.invokevirtual 182, 3) := by decide +kernel
theorem dX9_sends_6 : decode cX9_sends 6 = .ok (.aload_n 0, 1) := by decide +kernel
theorem dX9_sends_7 : decode cX9_sends 7 = .ok (.getfield 7, 3) := by decide +kernel
theorem dX9_sends_10 : decode cX9_sends 10 = .ok (.bipush 11, 2) := by decide +kernel
theorem dX9_sends_12 : decode cX9_sends 12 = .ok (.iaload, 1) := by decide +kernel
theorem dX9_sends_13 : decode cX9_sends 13 = .ok (.ifCond .gt 17, 3) := by decide +kernel
theorem dX9_sends_16 : decode cX9_sends 16 = .ok (.aload_n 0, 1) := by decide +kernel
theorem dX9_sends_17 : decode cX9_sends 17 = .ok (.getfield 7, 3) := by decide +kernel
theorem dX9_sends_20 : decode cX9_sends 20 = .ok (.bipush 10, 2) := by decide +kernel
theorem dX9_sends_22 : decode cX9_sends 22 = .ok (.iaload, 1) := by decide +kernel
theorem dX9_sends_23 : decode cX9_sends 23 = .ok (.aload_n 0, 1) := by decide +kernel
theorem dX9_sends_24 : decode cX9_sends 24 = .ok (.getfield 174, 3) := by decide +kernel
theorem dX9_sends_27 : decode cX9_sends 27 = .ok (.if_icmp .lt 6, 3) := by decide +kernel
theorem dX9_sends_30 : decode cX9_sends 30 = .ok (.bipush (-2), 2) := by decide +kernel
theorem dX9_sends_32 : decode cX9_sends 32 = .ok (.ireturn, 1) := by decide +kernel
theorem dX9_sends_33 : decode cX9_sends 33 = .ok (.aload_n 0, 1) := by decide +kernel
theorem dX9_sends_34 : decode cX9_sends 34 = .ok (.invokevirtual 193, 3) := by decide +kernel
theorem dX9_sends_37 : decode cX9_sends 37 = .ok (.aload_n 0, 1) := by decide +kernel
theorem dX9_sends_38 : decode cX9_sends 38 = .ok (.getfield 7, 3) := by decide +kernel
theorem dX9_sends_41 : decode cX9_sends 41 = .ok (.bipush 11, 2) := by decide +kernel
theorem dX9_sends_43 : decode cX9_sends 43 = .ok (.iconst 1, 1) := by decide +kernel
theorem dX9_sends_44 : decode cX9_sends 44 = .ok (.iastore, 1) := by decide +kernel
theorem dX9_sends_45 : decode cX9_sends 45 = .ok (.aload_n 0, 1) := by decide +kernel
theorem dX9_sends_46 : decode cX9_sends 46 = .ok (.getfield 7, 3) := by decide +kernel
theorem dX9_sends_49 : decode cX9_sends 49 = .ok (.bipush 10, 2) := by decide +kernel
theorem dX9_sends_51 : decode cX9_sends 51 = .ok (.iaload, 1) := by decide +kernel
theorem dX9_sends_52 : decode cX9_sends 52 = .ok (.ireturn, 1) := by decide +kernel
theorem dX9_answers_0 : decode cX9_answers 0 = .ok (.iload_n 1, 1) := by decide +kernel
theorem dX9_answers_1 : decode cX9_answers 1 = .ok (.i2l, 1) := by decide +kernel
theorem dX9_answers_2 : decode cX9_answers 2 = .ok (.lconst 0, 1) := by decide +kernel
theorem dX9_answers_3 : decode cX9_answers 3 = .ok (.lconst 1, 1) := by decide +kernel
theorem dX9_answers_4 : decode cX9_answers 4 = .ok (.invokestatic 78, 3) := by decide +kernel
theorem dX9_answers_7 : decode cX9_answers 7 = .ok (.ifCond .ne 5, 3) := by decide +kernel
theorem dX9_answers_10 : decode cX9_answers 10 = .ok (.iconst (-1), 1) := by decide +kernel
theorem dX9_answers_11 : decode cX9_answers 11 = .ok (.ireturn, 1) := by decide +kernel
theorem dX9_answers_12 : decode cX9_answers 12 = .ok (.aload_n 0, 1) := by decide +kernel
theorem dX9_answers_13 : decode cX9_answers 13 = .ok (.getfield 7, 3) := by decide +kernel
theorem dX9_answers_16 : decode cX9_answers 16 = .ok (.bipush 11, 2) := by decide +kernel
theorem dX9_answers_18 : decode cX9_answers 18 = .ok (.iaload, 1) := by decide +kernel
theorem dX9_answers_19 : decode cX9_answers 19 = .ok (.ifCond .ne 6, 3) := by decide +kernel
theorem dX9_answers_22 : decode cX9_answers 22 = .ok (.bipush (-2), 2) := by decide +kernel
theorem dX9_answers_24 : decode cX9_answers 24 = .ok (.ireturn, 1) := by decide +kernel
theorem dX9_answers_25 : decode cX9_answers 25 = .ok (.aload_n 0, 1) := by decide +kernel
theorem dX9_answers_26 : decode cX9_answers 26 = .ok (.invokevirtual 193, 3) := by decide +kernel
theorem dX9_answers_29 : decode cX9_answers 29 = .ok (.aload_n 0, 1) := by decide +kernel
theorem dX9_answers_30 : decode cX9_answers 30 = .ok (.getfield 7, 3) := by decide +kernel
theorem dX9_answers_33 : decode cX9_answers 33 = .ok (.bipush 11, 2) := by decide +kernel
theorem dX9_answers_35 : decode cX9_answers 35 = .ok (.iaload, 1) := by decide +kernel
theorem dX9_answers_36 : decode cX9_answers 36 = .ok (.iconst 1, 1) := by decide +kernel
theorem dX9_answers_37 : decode cX9_answers 37 = .ok (.iadd, 1) := by decide +kernel
theorem dX9_answers_38 : decode cX9_answers 38 = .ok (.iload_n 1, 1) := by decide +kernel
theorem dX9_answers_39 : decode cX9_answers 39 = .ok (.isub, 1) := by decide +kernel
theorem dX9_answers_40 : decode cX9_answers 40 = .ok (.istore_n 2, 1) := by decide +kernel
theorem dX9_answers_41 : decode cX9_answers 41 = .ok (.aload_n 0, 1) := by decide +kernel
theorem dX9_answers_42 : decode cX9_answers 42 = .ok (.getfield 7, 3) := by decide +kernel
theorem dX9_answers_45 : decode cX9_answers 45 = .ok (.bipush 11, 2) := by decide +kernel
theorem dX9_answers_47 : decode cX9_answers 47 = .ok (.iload_n 1, 1) := by decide +kernel
theorem dX9_answers_48 : decode cX9_answers 48 = .ok (.ifCond .ne 7, 3) := by decide +kernel
theorem dX9_answers_51 : decode cX9_answers 51 = .ok (.iload_n 2, 1) := by decide +kernel
theorem dX9_answers_52 : decode cX9_answers 52 = .ok (.goto 4, 3) := by decide +kernel
theorem dX9_answers_55 : decode cX9_answers 55 = .ok (.iconst 0, 1) := by decide +kernel
theorem dX9_answers_56 : decode cX9_answers 56 = .ok (.iastore, 1) := by decide +kernel
theorem dX9_answers_57 : decode cX9_answers 57 = .ok (.aload_n 0, 1) := by decide +kernel
theorem dX9_answers_58 : decode cX9_answers 58 = .ok (.getfield 7, 3) := by decide +kernel
theorem dX9_answers_61 : decode cX9_answers 61 = .ok (.bipush 10, 2) := by decide +kernel
theorem dX9_answers_63 : decode cX9_answers 63 = .ok (.dup2, 1) := by decide +kernel
theorem dX9_answers_64 : decode cX9_answers 64 = .ok (.iaload, 1) := by decide +kernel
theorem dX9_answers_65 : decode cX9_answers 65 = .ok (.iload_n 1, 1) := by decide +kernel
theorem dX9_answers_66 : decode cX9_answers 66 = .ok (.iadd, 1) := by decide +kernel
theorem dX9_answers_67 : decode cX9_answers 67 = .ok (.iastore, 1) := by decide +kernel
theorem dX9_answers_68 : decode cX9_answers 68 = .ok (.iload_n 2, 1) := by decide +kernel
theorem dX9_answers_69 : decode cX9_answers 69 = .ok (.ireturn, 1) := by decide +kernel
theorem dX9_undo_0 : decode cX9_undo 0 = .ok (.aload_n 0, 1) := by decide +kernel
theorem dX9_undo_1 : decode cX9_undo 1 = .ok (.getfield 66, 3) := by decide +kernel
theorem dX9_undo_4 : decode cX9_undo 4 = .ok (.ifCond .ne 6, 3) := by decide +kernel
theorem dX9_undo_7 : decode cX9_undo 7 = .ok (.bipush (-2), 2) := by decide +kernel
theorem dX9_undo_9 : decode cX9_undo 9 = .ok (.ireturn, 1) := by decide +kernel
theorem dX9_undo_10 : decode cX9_undo 10 = .ok (.aload_n 0, 1) := by decide +kernel
theorem dX9_undo_11 : decode cX9_undo 11 = .ok (.dup, 1) := by decide +kernel
theorem dX9_undo_12 : decode cX9_undo 12 = .ok (.getfield 66, 3) := by decide +kernel
theorem dX9_undo_15 : decode cX9_undo 15 = .ok (.iconst 1, 1) := by decide +kernel
theorem dX9_undo_16 : decode cX9_undo 16 = .ok (.isub, 1) := by decide +kernel
theorem dX9_undo_17 : decode cX9_undo 17 = .ok (.putfield 66, 3) := by decide +kernel
theorem dX9_undo_20 : decode cX9_undo 20 = .ok (.aload_n 0, 1) := by decide +kernel
theorem dX9_undo_21 : decode cX9_undo 21 = .ok (.bipush 36, 2) := by decide +kernel
theorem dX9_undo_23 : decode cX9_undo 23 = .ok (.bipush 12, 2) := by decide +kernel
theorem dX9_undo_25 : decode cX9_undo 25 = .ok (.aload_n 0, 1) := by decide +kernel
theorem dX9_undo_26 : decode cX9_undo 26 = .ok (.getfield 66, 3) := by decide +kernel
theorem dX9_undo_29 : decode cX9_undo 29 = .ok (.imul, 1) := by decide +kernel
theorem dX9_undo_30 : decode cX9_undo 30 = .ok (.iadd, 1) := by decide +kernel
theorem dX9_undo_31 : decode cX9_undo 31 = .ok (.iconst 0, 1) := by decide +kernel
theorem dX9_undo_32 : decode cX9_undo 32 = .ok (.invokevirtual 70, 3) := by decide +kernel
theorem dX9_undo_35 : decode cX9_undo 35 = .ok (.aload_n 0, 1) := by decide +kernel
theorem dX9_undo_36 : decode cX9_undo 36 = .ok (.getfield 66, 3) := by decide +kernel
theorem dX9_undo_39 : decode cX9_undo 39 = .ok (.ireturn, 1) := by decide +kernel
theorem dX9_mayBe_0 : decode cX9_mayBe 0 = .ok (.iload_n 1, 1) := by decide +kernel
theorem dX9_mayBe_1 : decode cX9_mayBe 1 = .ok (.iload_n 2, 1) := by decide +kernel
theorem dX9_mayBe_2 : decode cX9_mayBe 2 = .ok (.if_icmp .eq 38, 3) := by decide +kernel
theorem dX9_mayBe_5 : decode cX9_mayBe 5 = .ok (.aload_n 0, 1) := by decide +kernel
theorem dX9_mayBe_6 : decode cX9_mayBe 6 = .ok (.getfield 29, 3) := by decide +kernel
theorem dX9_mayBe_9 : decode cX9_mayBe 9 = .ok (.iload_n 1, 1) := by decide +kernel
theorem dX9_mayBe_10 : decode cX9_mayBe 10 = .ok (.iaload, 1) := by decide +kernel
theorem dX9_mayBe_11 : decode cX9_mayBe 11 = .ok (.iload_n 3, 1) := by decide +kernel
theorem dX9_mayBe_12 : decode cX9_mayBe 12 = .ok (.if_icmp .ge 32, 3) := by decide +kernel
theorem dX9_mayBe_15 : decode cX9_mayBe 15 = .ok (.aload_n 0, 1) := by decide +kernel
theorem dX9_mayBe_16 : decode cX9_mayBe 16 = .ok (.getfield 29, 3) := by decide +kernel
theorem dX9_mayBe_19 : decode cX9_mayBe 19 = .ok (.iload_n 2, 1) := by decide +kernel
theorem dX9_mayBe_20 : decode cX9_mayBe 20 = .ok (.iaload, 1) := by decide +kernel
theorem dX9_mayBe_21 : decode cX9_mayBe 21 = .ok (.iload_n 3, 1) := by decide +kernel
theorem dX9_mayBe_22 : decode cX9_mayBe 22 = .ok (.if_icmp .ge 22, 3) := by decide +kernel
theorem dX9_mayBe_25 : decode cX9_mayBe 25 = .ok (.aload_n 0, 1) := by decide +kernel
theorem dX9_mayBe_26 : decode cX9_mayBe 26 = .ok (.getfield 26, 3) := by decide +kernel
theorem dX9_mayBe_29 : decode cX9_mayBe 29 = .ok (.iload_n 1, 1) := by decide +kernel
theorem dX9_mayBe_30 : decode cX9_mayBe 30 = .ok (.iaload, 1) := by decide +kernel
theorem dX9_mayBe_31 : decode cX9_mayBe 31 = .ok (.aload_n 0, 1) := by decide +kernel
theorem dX9_mayBe_32 : decode cX9_mayBe 32 = .ok (.getfield 26, 3) := by decide +kernel
theorem dX9_mayBe_35 : decode cX9_mayBe 35 = .ok (.iload_n 2, 1) := by decide +kernel
theorem dX9_mayBe_36 : decode cX9_mayBe 36 = .ok (.iaload, 1) := by decide +kernel
theorem dX9_mayBe_37 : decode cX9_mayBe 37 = .ok (.if_icmp .ne 7, 3) := by decide +kernel
theorem dX9_mayBe_40 : decode cX9_mayBe 40 = .ok (.iconst 1, 1) := by decide +kernel
theorem dX9_mayBe_41 : decode cX9_mayBe 41 = .ok (.goto 4, 3) := by decide +kernel
theorem dX9_mayBe_44 : decode cX9_mayBe 44 = .ok (.iconst 0, 1) := by decide +kernel
theorem dX9_mayBe_45 : decode cX9_mayBe 45 = .ok (.ireturn, 1) := by decide +kernel
theorem dX9_isTold_0 : decode cX9_isTold 0 = .ok (.aload_n 0, 1) := by decide +kernel
theorem dX9_isTold_1 : decode cX9_isTold 1 = .ok (.getfield 32, 3) := by decide +kernel
theorem dX9_isTold_4 : decode cX9_isTold 4 = .ok (.iload_n 1, 1) := by decide +kernel
theorem dX9_isTold_5 : decode cX9_isTold 5 = .ok (.iaload, 1) := by decide +kernel
theorem dX9_isTold_6 : decode cX9_isTold 6 = .ok (.aload_n 0, 1) := by decide +kernel
theorem dX9_isTold_7 : decode cX9_isTold 7 = .ok (.getfield 32, 3) := by decide +kernel
theorem dX9_isTold_10 : decode cX9_isTold 10 = .ok (.iload_n 2, 1) := by decide +kernel
theorem dX9_isTold_11 : decode cX9_isTold 11 = .ok (.iaload, 1) := by decide +kernel
theorem dX9_isTold_12 : decode cX9_isTold 12 = .ok (.if_icmp .ne 7, 3) := by decide +kernel
theorem dX9_isTold_15 : decode cX9_isTold 15 = .ok (.iconst 1, 1) := by decide +kernel
theorem dX9_isTold_16 : decode cX9_isTold 16 = .ok (.goto 4, 3) := by decide +kernel
theorem dX9_isTold_19 : decode cX9_isTold 19 = .ok (.iconst 0, 1) := by decide +kernel
theorem dX9_isTold_20 : decode cX9_isTold 20 = .ok (.istore 4, 2) := by decide +kernel
theorem dX9_isTold_22 : decode cX9_isTold 22 = .ok (.iconst 0, 1) := by decide +kernel
theorem dX9_isTold_23 : decode cX9_isTold 23 = .ok (.istore 5, 2) := by decide +kernel
theorem dX9_isTold_25 : decode cX9_isTold 25 = .ok (.iload 5, 2) := by decide +kernel
theorem dX9_isTold_27 : decode cX9_isTold 27 = .ok (.aload_n 0, 1) := by decide +kernel
theorem dX9_isTold_28 : decode cX9_isTold 28 = .ok (.getfield 32, 3) := by decide +kernel
theorem dX9_isTold_31 : decode cX9_isTold 31 = .ok (.iload_n 1, 1) := by decide +kernel
theorem dX9_isTold_32 : decode cX9_isTold 32 = .ok (.iaload, 1) := by decide +kernel
theorem dX9_isTold_33 : decode cX9_isTold 33 = .ok (.if_icmp .ge 43, 3) := by decide +kernel
theorem dX9_isTold_36 : decode cX9_isTold 36 = .ok (.iload 4, 2) := by decide +kernel
theorem dX9_isTold_38 : decode cX9_isTold 38 = .ok (.ifCond .eq 38, 3) := by decide +kernel
theorem dX9_isTold_41 : decode cX9_isTold 41 = .ok (.aload_n 0, 1) := by decide +kernel
theorem dX9_isTold_42 : decode cX9_isTold 42 = .ok (.aload_n 0, 1) := by decide +kernel
theorem dX9_isTold_43 : decode cX9_isTold 43 = .ok (.getfield 35, 3) := by decide +kernel
theorem dX9_isTold_46 : decode cX9_isTold 46 = .ok (.iconst 4, 1) := by decide +kernel
theorem dX9_isTold_47 : decode cX9_isTold 47 = .ok (.iload_n 1, 1) := by decide +kernel
theorem dX9_isTold_48 : decode cX9_isTold 48 = .ok (.imul, 1) := by decide +kernel
theorem dX9_isTold_49 : decode cX9_isTold 49 = .ok (.iload 5, 2) := by decide +kernel
theorem dX9_isTold_51 : decode cX9_isTold 51 = .ok (.iadd, 1) := by decide +kernel
theorem dX9_isTold_52 : decode cX9_isTold 52 = .ok (.iaload, 1) := by decide +kernel
theorem dX9_isTold_53 : decode cX9_isTold 53 = .ok (.aload_n 0, 1) := by decide +kernel
theorem dX9_isTold_54 : decode cX9_isTold 54 = .ok (.getfield 35, 3) := by decide +kernel
theorem dX9_isTold_57 : decode cX9_isTold 57 = .ok (.iconst 4, 1) := by decide +kernel
theorem dX9_isTold_58 : decode cX9_isTold 58 = .ok (.iload_n 2, 1) := by decide +kernel
theorem dX9_isTold_59 : decode cX9_isTold 59 = .ok (.imul, 1) := by decide +kernel
theorem dX9_isTold_60 : decode cX9_isTold 60 = .ok (.iload 5, 2) := by decide +kernel
theorem dX9_isTold_62 : decode cX9_isTold 62 = .ok (.iadd, 1) := by decide +kernel
theorem dX9_isTold_63 : decode cX9_isTold 63 = .ok (.iaload, 1) := by decide +kernel
theorem dX9_isTold_64 : decode cX9_isTold 64 = .ok (.iload_n 3, 1) := by decide +kernel
theorem dX9_isTold_65 : decode cX9_isTold 65 = .ok (.invokevirtual 199, 3) := by decide +kernel
theorem dX9_isTold_68 : decode cX9_isTold 68 = .ok (.istore 4, 2) := by decide +kernel
theorem dX9_isTold_70 : decode cX9_isTold 70 = .ok (.iinc 5 1, 3) := by decide +kernel
theorem dX9_isTold_73 : decode cX9_isTold 73 = .ok (.goto (-48), 3) := by decide +kernel
theorem dX9_isTold_76 : decode cX9_isTold 76 = .ok (.iload 4, 2) := by decide +kernel
theorem dX9_isTold_78 : decode cX9_isTold 78 = .ok (.ireturn, 1) := by decide +kernel
theorem dX9_told_0 : decode cX9_told 0 = .ok (.aload_n 0, 1) := by decide +kernel
theorem dX9_told_1 : decode cX9_told 1 = .ok (.iload_n 1, 1) := by decide +kernel
theorem dX9_told_2 : decode cX9_told 2 = .ok (.invokevirtual 153, 3) := by decide +kernel
theorem dX9_told_5 : decode cX9_told 5 = .ok (.ifCond .eq 23, 3) := by decide +kernel
theorem dX9_told_8 : decode cX9_told 8 = .ok (.aload_n 0, 1) := by decide +kernel
theorem dX9_told_9 : decode cX9_told 9 = .ok (.iload_n 2, 1) := by decide +kernel
theorem dX9_told_10 : decode cX9_told 10 = .ok (.invokevirtual 153, 3) := by decide +kernel
theorem dX9_told_13 : decode cX9_told 13 = .ok (.ifCond .eq 15, 3) := by decide +kernel
theorem dX9_told_16 : decode cX9_told 16 = .ok (.iload_n 3, 1) := by decide +kernel
theorem dX9_told_17 : decode cX9_told 17 = .ok (.i2l, 1) := by decide +kernel
theorem dX9_told_18 : decode cX9_told 18 = .ok (.lconst 1, 1) := by decide +kernel
theorem dX9_told_19 : decode cX9_told 19 = .ok (.ldc2_w 203, 3) := by decide +kernel
theorem dX9_told_22 : decode cX9_told 22 = .ok (.invokestatic 78, 3) := by decide +kernel
theorem dX9_told_25 : decode cX9_told 25 = .ok (.ifCond .ne 7, 3) := by decide +kernel
theorem dX9_told_28 : decode cX9_told 28 = .ok (.iconst (-1), 1) := by decide +kernel
theorem dX9_told_29 : decode cX9_told 29 = .ok (.goto 18, 3) := by decide +kernel
theorem dX9_told_32 : decode cX9_told 32 = .ok (.aload_n 0, 1) := by decide +kernel
theorem dX9_told_33 : decode cX9_told 33 = .ok (.iload_n 1, 1) := by decide +kernel
theorem dX9_told_34 : decode cX9_told 34 = .ok (.iload_n 2, 1) := by decide +kernel
theorem dX9_told_35 : decode cX9_told 35 = .ok (.iload_n 3, 1) := by decide +kernel
theorem dX9_told_36 : decode cX9_told 36 = .ok (.invokevirtual 205, 3) := by decide +kernel
theorem dX9_told_39 : decode cX9_told 39 = .ok (.ifCond .eq 7, 3) := by decide +kernel
theorem dX9_told_42 : decode cX9_told 42 = .ok (.iconst 1, 1) := by decide +kernel
theorem dX9_told_43 : decode cX9_told 43 = .ok (.goto 4, 3) := by decide +kernel
theorem dX9_told_46 : decode cX9_told 46 = .ok (.iconst 0, 1) := by decide +kernel
theorem dX9_told_47 : decode cX9_told 47 = .ok (.ireturn, 1) := by decide +kernel
theorem dX9_ways_0 : decode cX9_ways 0 = .ok (.iconst 1, 1) := by decide +kernel
theorem dX9_ways_1 : decode cX9_ways 1 = .ok (.istore_n 3, 1) := by decide +kernel
theorem dX9_ways_2 : decode cX9_ways 2 = .ok (.aload_n 0, 1) := by decide +kernel
theorem dX9_ways_3 : decode cX9_ways 3 = .ok (.getfield 59, 3) := by decide +kernel
theorem dX9_ways_6 : decode cX9_ways 6 = .ok (.iload_n 1, 1) := by decide +kernel
theorem dX9_ways_7 : decode cX9_ways 7 = .ok (.iaload, 1) := by decide +kernel
theorem dX9_ways_8 : decode cX9_ways 8 = .ok (.istore 4, 2) := by decide +kernel
theorem dX9_ways_10 : decode cX9_ways 10 = .ok (.iload 4, 2) := by decide +kernel
theorem dX9_ways_12 : decode cX9_ways 12 = .ok (.aload_n 0, 1) := by decide +kernel
theorem dX9_ways_13 : decode cX9_ways 13 = .ok (.getfield 59, 3) := by decide +kernel
theorem dX9_ways_16 : decode cX9_ways 16 = .ok (.iload_n 1, 1) := by decide +kernel
theorem dX9_ways_17 : decode cX9_ways 17 = .ok (.iconst 1, 1) := by decide +kernel
theorem dX9_ways_18 : decode cX9_ways 18 = .ok (.iadd, 1) := by decide +kernel
theorem dX9_ways_19 : decode cX9_ways 19 = .ok (.iaload, 1) := by decide +kernel
theorem dX9_ways_20 : decode cX9_ways 20 = .ok (.if_icmp .ge 62, 3) := by decide +kernel
theorem dX9_ways_23 : decode cX9_ways 23 = .ok (.iconst 0, 1) := by decide +kernel
theorem dX9_ways_24 : decode cX9_ways 24 = .ok (.istore 5, 2) := by decide +kernel
theorem dX9_ways_26 : decode cX9_ways 26 = .ok (.iconst 0, 1) := by decide +kernel
theorem dX9_ways_27 : decode cX9_ways 27 = .ok (.istore 6, 2) := by decide +kernel
theorem dX9_ways_29 : decode cX9_ways 29 = .ok (.iload 6, 2) := by decide +kernel
theorem dX9_ways_31 : decode cX9_ways 31 = .ok (.aload_n 0, 1) := by decide +kernel
theorem dX9_ways_32 : decode cX9_ways 32 = .ok (.getfield 145, 3) := by decide +kernel
theorem dX9_ways_35 : decode cX9_ways 35 = .ok (.if_icmp .ge 36, 3) := by decide +kernel
theorem dX9_ways_38 : decode cX9_ways 38 = .ok (.iload 5, 2) := by decide +kernel
theorem dX9_ways_40 : decode cX9_ways 40 = .ok (.aload_n 0, 1) := by decide +kernel
theorem dX9_ways_41 : decode cX9_ways 41 = .ok (.aload_n 0, 1) := by decide +kernel
theorem dX9_ways_42 : decode cX9_ways 42 = .ok (.getfield 50, 3) := by decide +kernel
theorem dX9_ways_45 : decode cX9_ways 45 = .ok (.iload 4, 2) := by decide +kernel
theorem dX9_ways_47 : decode cX9_ways 47 = .ok (.iaload, 1) := by decide +kernel
theorem dX9_ways_48 : decode cX9_ways 48 = .ok (.iload 6, 2) := by decide +kernel
theorem dX9_ways_50 : decode cX9_ways 50 = .ok (.iload_n 2, 1) := by decide +kernel
theorem dX9_ways_51 : decode cX9_ways 51 = .ok (.invokevirtual 205, 3) := by decide +kernel
theorem dX9_ways_54 : decode cX9_ways 54 = .ok (.ifCond .eq 7, 3) := by decide +kernel
theorem dX9_ways_57 : decode cX9_ways 57 = .ok (.iconst 1, 1) := by decide +kernel
theorem dX9_ways_58 : decode cX9_ways 58 = .ok (.goto 4, 3) := by decide +kernel
theorem dX9_ways_61 : decode cX9_ways 61 = .ok (.iconst 0, 1) := by decide +kernel
theorem dX9_ways_62 : decode cX9_ways 62 = .ok (.iadd, 1) := by decide +kernel
theorem dX9_ways_63 : decode cX9_ways 63 = .ok (.istore 5, 2) := by decide +kernel
theorem dX9_ways_65 : decode cX9_ways 65 = .ok (.iinc 6 1, 3) := by decide +kernel
theorem dX9_ways_68 : decode cX9_ways 68 = .ok (.goto (-39), 3) := by decide +kernel
theorem dX9_ways_71 : decode cX9_ways 71 = .ok (.iload_n 3, 1) := by decide +kernel
theorem dX9_ways_72 : decode cX9_ways 72 = .ok (.iload 5, 2) := by decide +kernel
theorem dX9_ways_74 : decode cX9_ways 74 = .ok (.imul, 1) := by decide +kernel
theorem dX9_ways_75 : decode cX9_ways 75 = .ok (.istore_n 3, 1) := by decide +kernel
theorem dX9_ways_76 : decode cX9_ways 76 = .ok (.iinc 4 1, 3) := by decide +kernel
theorem dX9_ways_79 : decode cX9_ways 79 = .ok (.goto (-69), 3) := by decide +kernel
theorem dX9_ways_82 : decode cX9_ways 82 = .ok (.iload_n 3, 1) := by decide +kernel
theorem dX9_ways_83 : decode cX9_ways 83 = .ok (.ireturn, 1) := by decide +kernel
theorem dX9_meanings_0 : decode cX9_meanings 0 = .ok (.iload_n 1, 1) := by decide +kernel
theorem dX9_meanings_1 : decode cX9_meanings 1 = .ok (.ifCond .lt 15, 3) := by decide +kernel
theorem dX9_meanings_4 : decode cX9_meanings 4 = .ok (.iload_n 2, 1) := by decide +kernel
theorem dX9_meanings_5 : decode cX9_meanings 5 = .ok (.i2l, 1) := by decide +kernel
theorem dX9_meanings_6 : decode cX9_meanings 6 = .ok (.lconst 1, 1) := by decide +kernel
theorem dX9_meanings_7 : decode cX9_meanings 7 = .ok (.ldc2_w 203, 3) := by decide +kernel
theorem dX9_meanings_10 : decode cX9_meanings 10 = .ok (.invokestatic 78, 3) := by decide +kernel
theorem dX9_meanings_13 : decode cX9_meanings 13 = .ok (.ifCond .ne 5, 3) := by decide +kernel
theorem dX9_meanings_16 : decode cX9_meanings 16 = .ok (.iconst (-1), 1) := by decide +kernel
theorem dX9_meanings_17 : decode cX9_meanings 17 = .ok (.ireturn, 1) := by decide +kernel
theorem dX9_meanings_18 : decode cX9_meanings 18 = .ok (.aload_n 0, 1) := by decide +kernel
theorem dX9_meanings_19 : decode cX9_meanings 19 = .ok (.bipush (-9), 2) := by decide +kernel
theorem dX9_meanings_21 : decode cX9_meanings 21 = .ok (.invokevirtual 182, 3) := by decide +kernel
theorem dX9_meanings_24 : decode cX9_meanings 24 = .ok (.iload_n 1, 1) := by decide +kernel
theorem dX9_meanings_25 : decode cX9_meanings 25 = .ok (.aload_n 0, 1) := by decide +kernel
theorem dX9_meanings_26 : decode cX9_meanings 26 = .ok (.getfield 174, 3) := by decide +kernel
theorem dX9_meanings_29 : decode cX9_meanings 29 = .ok (.if_icmp .ge 12, 3) := by decide +kernel
theorem dX9_meanings_32 : decode cX9_meanings 32 = .ok (.aload_n 0, 1) := by decide +kernel
theorem dX9_meanings_33 : decode cX9_meanings 33 = .ok (.iload_n 1, 1) := by decide +kernel
theorem dX9_meanings_34 : decode cX9_meanings 34 = .ok (.iload_n 2, 1) := by decide +kernel
theorem dX9_meanings_35 : decode cX9_meanings 35 = .ok (.invokevirtual 208, 3) := by decide +kernel
theorem dX9_meanings_38 : decode cX9_meanings 38 = .ok (.goto 5, 3) := by decide +kernel
theorem dX9_meanings_41 : decode cX9_meanings 41 = .ok (.bipush (-9), 2) := by decide +kernel
theorem dX9_meanings_43 : decode cX9_meanings 43 = .ok (.ireturn, 1) := by decide +kernel
theorem dX9_farthest_0 : decode cX9_farthest 0 = .ok (.aload_n 0, 1) := by decide +kernel
theorem dX9_farthest_1 : decode cX9_farthest 1 = .ok (.getfield 174, 3) := by decide +kernel
theorem dX9_farthest_4 : decode cX9_farthest 4 = .ok (.bipush (-9), 2) := by decide +kernel
theorem dX9_farthest_6 : decode cX9_farthest 6 = .ok (.if_icmp .ne 8, 3) := by decide +kernel
theorem dX9_farthest_9 : decode cX9_farthest 9 = .ok (.bipush (-9), 2) := by decide +kernel
theorem dX9_farthest_11 : decode cX9_farthest 11 = .ok (.goto 5, 3) := by decide +kernel
theorem dX9_farthest_14 : decode cX9_farthest 14 = .ok (.bipush 9, 2) := by decide +kernel
theorem dX9_farthest_16 : decode cX9_farthest 16 = .ok (.istore_n 1, 1) := by decide +kernel
theorem dX9_farthest_17 : decode cX9_farthest 17 = .ok (.iconst 0, 1) := by decide +kernel
theorem dX9_farthest_18 : decode cX9_farthest 18 = .ok (.istore_n 2, 1) := by decide +kernel
theorem dX9_farthest_19 : decode cX9_farthest 19 = .ok (.iload_n 2, 1) := by decide +kernel
theorem dX9_farthest_20 : decode cX9_farthest 20 = .ok (.aload_n 0, 1) := by decide +kernel
theorem dX9_farthest_21 : decode cX9_farthest 21 = .ok (.getfield 174, 3) := by decide +kernel
theorem dX9_farthest_24 : decode cX9_farthest 24 = .ok (.if_icmp .ge 29, 3) := by decide +kernel
theorem dX9_farthest_27 : decode cX9_farthest 27 = .ok (.iload_n 1, 1) := by decide +kernel
theorem dX9_farthest_28 : decode cX9_farthest 28 = .ok (.ifCond .le 19, 3) := by decide +kernel
theorem dX9_farthest_31 : decode cX9_farthest 31 = .ok (.aload_n 0, 1) := by decide +kernel
theorem dX9_farthest_32 : decode cX9_farthest 32 = .ok (.iload_n 2, 1) := by decide +kernel
theorem dX9_farthest_33 : decode cX9_farthest 33 = .ok (.iload_n 1, 1) := by decide +kernel
theorem dX9_farthest_34 : decode cX9_farthest 34 = .ok (.invokevirtual 208, 3) := by decide +kernel
theorem dX9_farthest_37 : decode cX9_farthest 37 = .ok (.iconst 1, 1) := by decide +kernel
theorem dX9_farthest_38 : decode cX9_farthest 38 = .ok (.if_icmp .eq 9, 3) := by decide +kernel
theorem dX9_farthest_41 : decode cX9_farthest 41 = .ok (.iinc 1 (-1), 3) := by decide +kernel
theorem dX9_farthest_44 : decode cX9_farthest 44 = .ok (.goto (-17), 3) := by decide +kernel
theorem dX9_farthest_47 : decode cX9_farthest 47 = .ok (.iinc 2 1, 3) := by decide +kernel
theorem dX9_farthest_50 : decode cX9_farthest 50 = .ok (.goto (-31), 3) := by decide +kernel
theorem dX9_farthest_53 : decode cX9_farthest 53 = .ok (.iload_n 1, 1) := by decide +kernel
theorem dX9_farthest_54 : decode cX9_farthest 54 = .ok (.ireturn, 1) := by decide +kernel
theorem dX9_sees_0 : decode cX9_sees 0 = .ok (.iload_n 1, 1) := by decide +kernel
theorem dX9_sees_1 : decode cX9_sees 1 = .ok (.i2l, 1) := by decide +kernel
theorem dX9_sees_2 : decode cX9_sees 2 = .ok (.lconst 0, 1) := by decide +kernel
theorem dX9_sees_3 : decode cX9_sees 3 = .ok (.ldc2_w 151, 3) := by decide +kernel
theorem dX9_sees_6 : decode cX9_sees 6 = .ok (.invokestatic 78, 3) := by decide +kernel
theorem dX9_sees_9 : decode cX9_sees 9 = .ok (.ifCond .eq 15, 3) := by decide +kernel
theorem dX9_sees_12 : decode cX9_sees 12 = .ok (.iload_n 2, 1) := by decide +kernel
theorem dX9_sees_13 : decode cX9_sees 13 = .ok (.i2l, 1) := by decide +kernel
theorem dX9_sees_14 : decode cX9_sees 14 = .ok (.lconst 0, 1) := by decide +kernel
theorem dX9_sees_15 : decode cX9_sees 15 = .ok (.ldc2_w 151, 3) := by decide +kernel
theorem dX9_sees_18 : decode cX9_sees 18 = .ok (.invokestatic 78, 3) := by decide +kernel
theorem dX9_sees_21 : decode cX9_sees 21 = .ok (.ifCond .ne 5, 3) := by decide +kernel
theorem dX9_sees_24 : decode cX9_sees 24 = .ok (.iconst (-1), 1) := by decide +kernel
theorem dX9_sees_25 : decode cX9_sees 25 = .ok (.ireturn, 1) := by decide +kernel
theorem dX9_sees_26 : decode cX9_sees 26 = .ok (.aload_n 0, 1) := by decide +kernel
theorem dX9_sees_27 : decode cX9_sees 27 = .ok (.getfield 148, 3) := by decide +kernel
theorem dX9_sees_30 : decode cX9_sees 30 = .ok (.bipush 6, 2) := by decide +kernel
theorem dX9_sees_32 : decode cX9_sees 32 = .ok (.if_icmp .ne 6, 3) := by decide +kernel
theorem dX9_sees_35 : decode cX9_sees 35 = .ok (.bipush (-3), 2) := by decide +kernel
theorem dX9_sees_37 : decode cX9_sees 37 = .ok (.ireturn, 1) := by decide +kernel
theorem dX9_sees_38 : decode cX9_sees 38 = .ok (.aload_n 0, 1) := by decide +kernel
theorem dX9_sees_39 : decode cX9_sees 39 = .ok (.getfield 17, 3) := by decide +kernel
theorem dX9_sees_42 : decode cX9_sees 42 = .ok (.aload_n 0, 1) := by decide +kernel
theorem dX9_sees_43 : decode cX9_sees 43 = .ok (.getfield 148, 3) := by decide +kernel
theorem dX9_sees_46 : decode cX9_sees 46 = .ok (.iload_n 1, 1) := by decide +kernel
theorem dX9_sees_47 : decode cX9_sees 47 = .ok (.iastore, 1) := by decide +kernel
theorem dX9_sees_48 : decode cX9_sees 48 = .ok (.aload_n 0, 1) := by decide +kernel
theorem dX9_sees_49 : decode cX9_sees 49 = .ok (.getfield 20, 3) := by decide +kernel
theorem dX9_sees_52 : decode cX9_sees 52 = .ok (.aload_n 0, 1) := by decide +kernel
theorem dX9_sees_53 : decode cX9_sees 53 = .ok (.getfield 148, 3) := by decide +kernel
theorem dX9_sees_56 : decode cX9_sees 56 = .ok (.iload_n 2, 1) := by decide +kernel
theorem dX9_sees_57 : decode cX9_sees 57 = .ok (.iastore, 1) := by decide +kernel
theorem dX9_sees_58 : decode cX9_sees 58 = .ok (.aload_n 0, 1) := by decide +kernel
theorem dX9_sees_59 : decode cX9_sees 59 = .ok (.dup, 1) := by decide +kernel
theorem dX9_sees_60 : decode cX9_sees 60 = .ok (.getfield 148, 3) := by decide +kernel
theorem dX9_sees_63 : decode cX9_sees 63 = .ok (.iconst 1, 1) := by decide +kernel
theorem dX9_sees_64 : decode cX9_sees 64 = .ok (.iadd, 1) := by decide +kernel
theorem dX9_sees_65 : decode cX9_sees 65 = .ok (.putfield 148, 3) := by decide +kernel
theorem dX9_sees_68 : decode cX9_sees 68 = .ok (.aload_n 0, 1) := by decide +kernel
theorem dX9_sees_69 : decode cX9_sees 69 = .ok (.getfield 148, 3) := by decide +kernel
theorem dX9_sees_72 : decode cX9_sees 72 = .ok (.ireturn, 1) := by decide +kernel
theorem dX9_forget_0 : decode cX9_forget 0 = .ok (.aload_n 0, 1) := by decide +kernel
theorem dX9_forget_1 : decode cX9_forget 1 = .ok (.getfield 148, 3) := by decide +kernel
theorem dX9_forget_4 : decode cX9_forget 4 = .ok (.istore_n 1, 1) := by decide +kernel
theorem dX9_forget_5 : decode cX9_forget 5 = .ok (.aload_n 0, 1) := by decide +kernel
theorem dX9_forget_6 : decode cX9_forget 6 = .ok (.iconst 0, 1) := by decide +kernel
theorem dX9_forget_7 : decode cX9_forget 7 = .ok (.putfield 148, 3) := by decide +kernel
theorem dX9_forget_10 : decode cX9_forget 10 = .ok (.iload_n 1, 1) := by decide +kernel
theorem dX9_forget_11 : decode cX9_forget 11 = .ok (.ireturn, 1) := by decide +kernel
theorem dX9_unseen_0 : decode cX9_unseen 0 = .ok (.iconst 0, 1) := by decide +kernel
theorem dX9_unseen_1 : decode cX9_unseen 1 = .ok (.istore_n 1, 1) := by decide +kernel
theorem dX9_unseen_2 : decode cX9_unseen 2 = .ok (.iconst 0, 1) := by decide +kernel
theorem dX9_unseen_3 : decode cX9_unseen 3 = .ok (.istore_n 2, 1) := by decide +kernel
theorem dX9_unseen_4 : decode cX9_unseen 4 = .ok (.iload_n 2, 1) := by decide +kernel
theorem dX9_unseen_5 : decode cX9_unseen 5 = .ok (.aload_n 0, 1) := by decide +kernel
theorem dX9_unseen_6 : decode cX9_unseen 6 = .ok (.getfield 7, 3) := by decide +kernel
theorem dX9_unseen_9 : decode cX9_unseen 9 = .ok (.iconst 0, 1) := by decide +kernel
theorem dX9_unseen_10 : decode cX9_unseen 10 = .ok (.iaload, 1) := by decide +kernel
theorem dX9_unseen_11 : decode cX9_unseen 11 = .ok (.if_icmp .ge 107, 3) := by decide +kernel
theorem dX9_unseen_14 : decode cX9_unseen 14 = .ok (.aload_n 0, 1) := by decide +kernel
theorem dX9_unseen_15 : decode cX9_unseen 15 = .ok (.iload_n 2, 1) := by decide +kernel
theorem dX9_unseen_16 : decode cX9_unseen 16 = .ok (.invokevirtual 182, 3) := by decide +kernel
theorem dX9_unseen_19 : decode cX9_unseen 19 = .ok (.aload_n 0, 1) := by decide +kernel
theorem dX9_unseen_20 : decode cX9_unseen 20 = .ok (.getfield 174, 3) := by decide +kernel
theorem dX9_unseen_23 : decode cX9_unseen 23 = .ok (.bipush (-9), 2) := by decide +kernel
theorem dX9_unseen_25 : decode cX9_unseen 25 = .ok (.if_icmp .eq 7, 3) := by decide +kernel
theorem dX9_unseen_28 : decode cX9_unseen 28 = .ok (.iconst 1, 1) := by decide +kernel
theorem dX9_unseen_29 : decode cX9_unseen 29 = .ok (.goto 4, 3) := by decide +kernel
theorem dX9_unseen_32 : decode cX9_unseen 32 = .ok (.iconst 0, 1) := by decide +kernel
theorem dX9_unseen_33 : decode cX9_unseen 33 = .ok (.istore_n 3, 1) := by decide +kernel
theorem dX9_unseen_34 : decode cX9_unseen 34 = .ok (.iconst 0, 1) := by decide +kernel
theorem dX9_unseen_35 : decode cX9_unseen 35 = .ok (.istore 4, 2) := by decide +kernel
theorem dX9_unseen_37 : decode cX9_unseen 37 = .ok (.iload 4, 2) := by decide +kernel
theorem dX9_unseen_39 : decode cX9_unseen 39 = .ok (.aload_n 0, 1) := by decide +kernel
theorem dX9_unseen_40 : decode cX9_unseen 40 = .ok (.getfield 148, 3) := by decide +kernel
theorem dX9_unseen_43 : decode cX9_unseen 43 = .ok (.if_icmp .ge 55, 3) := by decide +kernel
theorem dX9_unseen_46 : decode cX9_unseen 46 = .ok (.iload_n 3, 1) := by decide +kernel
theorem dX9_unseen_47 : decode cX9_unseen 47 = .ok (.ifCond .eq 51, 3) := by decide +kernel
theorem dX9_unseen_50 : decode cX9_unseen 50 = .ok (.aload_n 0, 1) := by decide +kernel
theorem dX9_unseen_51 : decode cX9_unseen 51 = .ok (.aload_n 0, 1) := by decide +kernel
theorem dX9_unseen_52 : decode cX9_unseen 52 = .ok (.getfield 17, 3) := by decide +kernel
theorem dX9_unseen_55 : decode cX9_unseen 55 = .ok (.iload 4, 2) := by decide +kernel
theorem dX9_unseen_57 : decode cX9_unseen 57 = .ok (.iaload, 1) := by decide +kernel
theorem dX9_unseen_58 : decode cX9_unseen 58 = .ok (.invokevirtual 186, 3) := by decide +kernel
theorem dX9_unseen_61 : decode cX9_unseen 61 = .ok (.istore 5, 2) := by decide +kernel
theorem dX9_unseen_63 : decode cX9_unseen 63 = .ok (.aload_n 0, 1) := by decide +kernel
theorem dX9_unseen_64 : decode cX9_unseen 64 = .ok (.getfield 20, 3) := by decide +kernel
theorem dX9_unseen_67 : decode cX9_unseen 67 = .ok (.iload 4, 2) := by decide +kernel
theorem dX9_unseen_69 : decode cX9_unseen 69 = .ok (.iaload, 1) := by decide +kernel
theorem dX9_unseen_70 : decode cX9_unseen 70 = .ok (.iload 5, 2) := by decide +kernel
theorem dX9_unseen_72 : decode cX9_unseen 72 = .ok (.bipush (-9), 2) := by decide +kernel
theorem dX9_unseen_74 : decode cX9_unseen 74 = .ok (.if_icmp .ne 7, 3) := by decide +kernel
theorem dX9_unseen_77 : decode cX9_unseen 77 = .ok (.iconst 0, 1) := by decide +kernel
theorem dX9_unseen_78 : decode cX9_unseen 78 = .ok (.goto 5, 3) := by decide +kernel
theorem dX9_unseen_81 : decode cX9_unseen 81 = .ok (.iload 5, 2) := by decide +kernel
theorem dX9_unseen_83 : decode cX9_unseen 83 = .ok (.if_icmp .ne 7, 3) := by decide +kernel
theorem dX9_unseen_86 : decode cX9_unseen 86 = .ok (.iconst 1, 1) := by decide +kernel
theorem dX9_unseen_87 : decode cX9_unseen 87 = .ok (.goto 4, 3) := by decide +kernel
theorem dX9_unseen_90 : decode cX9_unseen 90 = .ok (.iconst 0, 1) := by decide +kernel
theorem dX9_unseen_91 : decode cX9_unseen 91 = .ok (.istore_n 3, 1) := by decide +kernel
theorem dX9_unseen_92 : decode cX9_unseen 92 = .ok (.iinc 4 1, 3) := by decide +kernel
theorem dX9_unseen_95 : decode cX9_unseen 95 = .ok (.goto (-58), 3) := by decide +kernel
theorem dX9_unseen_98 : decode cX9_unseen 98 = .ok (.iload_n 1, 1) := by decide +kernel
theorem dX9_unseen_99 : decode cX9_unseen 99 = .ok (.iload_n 3, 1) := by decide +kernel
theorem dX9_unseen_100 : decode cX9_unseen 100 = .ok (.ifCond .eq 9, 3) := by decide +kernel
theorem dX9_unseen_103 : decode cX9_unseen 103 = .ok (.iconst 1, 1) := by decide +kernel
theorem dX9_unseen_104 : decode cX9_unseen 104 = .ok (.iload_n 2, 1) := by decide +kernel
theorem dX9_unseen_105 : decode cX9_unseen 105 = .ok (.ishl, 1) := by decide +kernel
theorem dX9_unseen_106 : decode cX9_unseen 106 = .ok (.goto 4, 3) := by decide +kernel
theorem dX9_unseen_109 : decode cX9_unseen 109 = .ok (.iconst 0, 1) := by decide +kernel
theorem dX9_unseen_110 : decode cX9_unseen 110 = .ok (.ior, 1) := by decide +kernel
theorem dX9_unseen_111 : decode cX9_unseen 111 = .ok (.istore_n 1, 1) := by decide +kernel
theorem dX9_unseen_112 : decode cX9_unseen 112 = .ok (.iinc 2 1, 3) := by decide +kernel
theorem dX9_unseen_115 : decode cX9_unseen 115 = .ok (.goto (-111), 3) := by decide +kernel
theorem dX9_unseen_118 : decode cX9_unseen 118 = .ok (.iload_n 1, 1) := by decide +kernel
theorem dX9_unseen_119 : decode cX9_unseen 119 = .ok (.ireturn, 1) := by decide +kernel
theorem dX9_keep_0 : decode cX9_keep 0 = .ok (.iload_n 1, 1) := by decide +kernel
theorem dX9_keep_1 : decode cX9_keep 1 = .ok (.i2l, 1) := by decide +kernel
theorem dX9_keep_2 : decode cX9_keep 2 = .ok (.lconst 0, 1) := by decide +kernel
theorem dX9_keep_3 : decode cX9_keep 3 = .ok (.lconst 1, 1) := by decide +kernel
theorem dX9_keep_4 : decode cX9_keep 4 = .ok (.invokestatic 78, 3) := by decide +kernel
theorem dX9_keep_7 : decode cX9_keep 7 = .ok (.ifCond .ne 5, 3) := by decide +kernel
theorem dX9_keep_10 : decode cX9_keep 10 = .ok (.iconst (-1), 1) := by decide +kernel
theorem dX9_keep_11 : decode cX9_keep 11 = .ok (.ireturn, 1) := by decide +kernel
theorem dX9_keep_12 : decode cX9_keep 12 = .ok (.aload_n 0, 1) := by decide +kernel
theorem dX9_keep_13 : decode cX9_keep 13 = .ok (.iconst 0, 1) := by decide +kernel
theorem dX9_keep_14 : decode cX9_keep 14 = .ok (.bipush 12, 2) := by decide +kernel
theorem dX9_keep_16 : decode cX9_keep 16 = .ok (.bipush 12, 2) := by decide +kernel
theorem dX9_keep_18 : decode cX9_keep 18 = .ok (.iload_n 1, 1) := by decide +kernel
theorem dX9_keep_19 : decode cX9_keep 19 = .ok (.imul, 1) := by decide +kernel
theorem dX9_keep_20 : decode cX9_keep 20 = .ok (.iadd, 1) := by decide +kernel
theorem dX9_keep_21 : decode cX9_keep 21 = .ok (.invokevirtual 70, 3) := by decide +kernel
theorem dX9_keep_24 : decode cX9_keep 24 = .ok (.aload_n 0, 1) := by decide +kernel
theorem dX9_keep_25 : decode cX9_keep 25 = .ok (.getfield 13, 3) := by decide +kernel
theorem dX9_keep_28 : decode cX9_keep 28 = .ok (.iload_n 1, 1) := by decide +kernel
theorem dX9_keep_29 : decode cX9_keep 29 = .ok (.iconst 1, 1) := by decide +kernel
theorem dX9_keep_30 : decode cX9_keep 30 = .ok (.bastore, 1) := by decide +kernel
theorem dX9_keep_31 : decode cX9_keep 31 = .ok (.aload_n 0, 1) := by decide +kernel
theorem dX9_keep_32 : decode cX9_keep 32 = .ok (.getfield 7, 3) := by decide +kernel
theorem dX9_keep_35 : decode cX9_keep 35 = .ok (.iconst 0, 1) := by decide +kernel
theorem dX9_keep_36 : decode cX9_keep 36 = .ok (.iaload, 1) := by decide +kernel
theorem dX9_keep_37 : decode cX9_keep 37 = .ok (.ireturn, 1) := by decide +kernel
theorem dX9_back_0 : decode cX9_back 0 = .ok (.iload_n 1, 1) := by decide +kernel
theorem dX9_back_1 : decode cX9_back 1 = .ok (.i2l, 1) := by decide +kernel
theorem dX9_back_2 : decode cX9_back 2 = .ok (.lconst 0, 1) := by decide +kernel
theorem dX9_back_3 : decode cX9_back 3 = .ok (.lconst 1, 1) := by decide +kernel
theorem dX9_back_4 : decode cX9_back 4 = .ok (.invokestatic 78, 3) := by decide +kernel
theorem dX9_back_7 : decode cX9_back 7 = .ok (.ifCond .ne 5, 3) := by decide +kernel
theorem dX9_back_10 : decode cX9_back 10 = .ok (.iconst (-1), 1) := by decide +kernel
theorem dX9_back_11 : decode cX9_back 11 = .ok (.ireturn, 1) := by decide +kernel
theorem dX9_back_12 : decode cX9_back 12 = .ok (.aload_n 0, 1) := by decide +kernel
theorem dX9_back_13 : decode cX9_back 13 = .ok (.getfield 13, 3) := by decide +kernel
theorem dX9_back_16 : decode cX9_back 16 = .ok (.iload_n 1, 1) := by decide +kernel
theorem dX9_back_17 : decode cX9_back 17 = .ok (.baload, 1) := by decide +kernel
theorem dX9_back_18 : decode cX9_back 18 = .ok (.ifCond .ne 6, 3) := by decide +kernel
theorem dX9_back_21 : decode cX9_back 21 = .ok (.bipush (-2), 2) := by decide +kernel
theorem dX9_back_23 : decode cX9_back 23 = .ok (.ireturn, 1) := by decide +kernel
theorem dX9_back_24 : decode cX9_back 24 = .ok (.aload_n 0, 1) := by decide +kernel
theorem dX9_back_25 : decode cX9_back 25 = .ok (.bipush 12, 2) := by decide +kernel
theorem dX9_back_27 : decode cX9_back 27 = .ok (.bipush 12, 2) := by decide +kernel
theorem dX9_back_29 : decode cX9_back 29 = .ok (.iload_n 1, 1) := by decide +kernel
theorem dX9_back_30 : decode cX9_back 30 = .ok (.imul, 1) := by decide +kernel
theorem dX9_back_31 : decode cX9_back 31 = .ok (.iadd, 1) := by decide +kernel
theorem dX9_back_32 : decode cX9_back 32 = .ok (.iconst 0, 1) := by decide +kernel
theorem dX9_back_33 : decode cX9_back 33 = .ok (.invokevirtual 70, 3) := by decide +kernel
theorem dX9_back_36 : decode cX9_back 36 = .ok (.aload_n 0, 1) := by decide +kernel
theorem dX9_back_37 : decode cX9_back 37 = .ok (.iconst 0, 1) := by decide +kernel
theorem dX9_back_38 : decode cX9_back 38 = .ok (.putfield 66, 3) := by decide +kernel
theorem dX9_back_41 : decode cX9_back 41 = .ok (.aload_n 0, 1) := by decide +kernel
theorem dX9_back_42 : decode cX9_back 42 = .ok (.getfield 7, 3) := by decide +kernel
theorem dX9_back_45 : decode cX9_back 45 = .ok (.iconst 0, 1) := by decide +kernel
theorem dX9_back_46 : decode cX9_back 46 = .ok (.iaload, 1) := by decide +kernel
theorem dX9_back_47 : decode cX9_back 47 = .ok (.ireturn, 1) := by decide +kernel
theorem dX9_count0_0 : decode cX9_count0 0 = .ok (.aload_n 0, 1) := by decide +kernel
theorem dX9_count0_1 : decode cX9_count0 1 = .ok (.bipush (-9), 2) := by decide +kernel
theorem dX9_count0_3 : decode cX9_count0 3 = .ok (.invokevirtual 182, 3) := by decide +kernel
theorem dX9_count0_6 : decode cX9_count0 6 = .ok (.iload_n 1, 1) := by decide +kernel
theorem dX9_count0_7 : decode cX9_count0 7 = .ok (.iconst 3, 1) := by decide +kernel
theorem dX9_count0_8 : decode cX9_count0 8 = .ok (.if_icmp .ne 10, 3) := by decide +kernel
theorem dX9_count0_11 : decode cX9_count0 11 = .ok (.aload_n 0, 1) := by decide +kernel
theorem dX9_count0_12 : decode cX9_count0 12 = .ok (.getfield 174, 3) := by decide +kernel
theorem dX9_count0_15 : decode cX9_count0 15 = .ok (.goto 7, 3) := by decide +kernel
theorem dX9_count0_18 : decode cX9_count0 18 = .ok (.aload_n 0, 1) := by decide +kernel
theorem dX9_count0_19 : decode cX9_count0 19 = .ok (.invokevirtual 211, 3) := by decide +kernel
theorem dX9_count0_22 : decode cX9_count0 22 = .ok (.ireturn, 1) := by decide +kernel
theorem dX9_count_0 : decode cX9_count 0 = .ok (.iload_n 1, 1) := by decide +kernel
theorem dX9_count_1 : decode cX9_count 1 = .ok (.tableswitch 127 0 9 #[55, 60, 67, 75, 75, 81, 104, 112, 117, 122], 55) := by decide +kernel
theorem dX9_count_56 : decode cX9_count 56 = .ok (.aload_n 0, 1) := by decide +kernel
theorem dX9_count_57 : decode cX9_count 57 = .ok (.getfield 145, 3) := by decide +kernel
theorem dX9_count_60 : decode cX9_count 60 = .ok (.ireturn, 1) := by decide +kernel
theorem dX9_count_61 : decode cX9_count 61 = .ok (.aload_n 0, 1) := by decide +kernel
theorem dX9_count_62 : decode cX9_count 62 = .ok (.getfield 7, 3) := by decide +kernel
theorem dX9_count_65 : decode cX9_count 65 = .ok (.iconst 0, 1) := by decide +kernel
theorem dX9_count_66 : decode cX9_count 66 = .ok (.iaload, 1) := by decide +kernel
theorem dX9_count_67 : decode cX9_count 67 = .ok (.ireturn, 1) := by decide +kernel
theorem dX9_count_68 : decode cX9_count 68 = .ok (.aload_n 0, 1) := by decide +kernel
theorem dX9_count_69 : decode cX9_count 69 = .ok (.getfield 7, 3) := by decide +kernel
theorem dX9_count_72 : decode cX9_count 72 = .ok (.bipush 9, 2) := by decide +kernel
theorem dX9_count_74 : decode cX9_count 74 = .ok (.iaload, 1) := by decide +kernel
theorem dX9_count_75 : decode cX9_count 75 = .ok (.ireturn, 1) := by decide +kernel
theorem dX9_count_76 : decode cX9_count 76 = .ok (.aload_n 0, 1) := by decide +kernel
theorem dX9_count_77 : decode cX9_count 77 = .ok (.iload_n 1, 1) := by decide +kernel
theorem dX9_count_78 : decode cX9_count 78 = .ok (.invokevirtual 215, 3) := by decide +kernel
theorem dX9_count_81 : decode cX9_count 81 = .ok (.ireturn, 1) := by decide +kernel
theorem dX9_count_82 : decode cX9_count 82 = .ok (.aload_n 0, 1) := by decide +kernel
theorem dX9_count_83 : decode cX9_count 83 = .ok (.getfield 7, 3) := by decide +kernel
theorem dX9_count_86 : decode cX9_count 86 = .ok (.bipush 11, 2) := by decide +kernel
theorem dX9_count_88 : decode cX9_count 88 = .ok (.iaload, 1) := by decide +kernel
theorem dX9_count_89 : decode cX9_count 89 = .ok (.ifCond .le 13, 3) := by decide +kernel
theorem dX9_count_92 : decode cX9_count 92 = .ok (.aload_n 0, 1) := by decide +kernel
theorem dX9_count_93 : decode cX9_count 93 = .ok (.getfield 7, 3) := by decide +kernel
theorem dX9_count_96 : decode cX9_count 96 = .ok (.bipush 10, 2) := by decide +kernel
theorem dX9_count_98 : decode cX9_count 98 = .ok (.iaload, 1) := by decide +kernel
theorem dX9_count_99 : decode cX9_count 99 = .ok (.goto 5, 3) := by decide +kernel
theorem dX9_count_102 : decode cX9_count 102 = .ok (.bipush (-9), 2) := by decide +kernel
theorem dX9_count_104 : decode cX9_count 104 = .ok (.ireturn, 1) := by decide +kernel
theorem dX9_count_105 : decode cX9_count 105 = .ok (.aload_n 0, 1) := by decide +kernel
theorem dX9_count_106 : decode cX9_count 106 = .ok (.getfield 7, 3) := by decide +kernel
theorem dX9_count_109 : decode cX9_count 109 = .ok (.bipush 10, 2) := by decide +kernel
theorem dX9_count_111 : decode cX9_count 111 = .ok (.iaload, 1) := by decide +kernel
theorem dX9_count_112 : decode cX9_count 112 = .ok (.ireturn, 1) := by decide +kernel
theorem dX9_count_113 : decode cX9_count 113 = .ok (.aload_n 0, 1) := by decide +kernel
theorem dX9_count_114 : decode cX9_count 114 = .ok (.getfield 148, 3) := by decide +kernel
theorem dX9_count_117 : decode cX9_count 117 = .ok (.ireturn, 1) := by decide +kernel
theorem dX9_count_118 : decode cX9_count 118 = .ok (.aload_n 0, 1) := by decide +kernel
theorem dX9_count_119 : decode cX9_count 119 = .ok (.getfield 85, 3) := by decide +kernel
theorem dX9_count_122 : decode cX9_count 122 = .ok (.ireturn, 1) := by decide +kernel
theorem dX9_count_123 : decode cX9_count 123 = .ok (.aload_n 0, 1) := by decide +kernel
theorem dX9_count_124 : decode cX9_count 124 = .ok (.getfield 66, 3) := by decide +kernel
theorem dX9_count_127 : decode cX9_count 127 = .ok (.ireturn, 1) := by decide +kernel
theorem dX9_count_128 : decode cX9_count 128 = .ok (.iconst (-1), 1) := by decide +kernel
theorem dX9_count_129 : decode cX9_count 129 = .ok (.ireturn, 1) := by decide +kernel
end
section
/-! decode rows -/
theorem dL_law_0 : decode cL_law 0 = .ok (.new 7, 3) := by decide +kernel
theorem dL_law_3 : decode cL_law 3 = .ok (.dup, 1) := by decide +kernel
theorem dL_law_4 : decode cL_law 4 = .ok (.invokespecial 9, 3) := by decide +kernel
theorem dL_law_7 : decode cL_law 7 = .ok (.astore_n 1, 1) := by decide +kernel
theorem dL_law_8 : decode cL_law 8 = .ok (.new 10, 3) := by decide +kernel
theorem dL_law_11 : decode cL_law 11 = .ok (.dup, 1) := by decide +kernel
theorem dL_law_12 : decode cL_law 12 = .ok (.invokespecial 12, 3) := by decide +kernel
theorem dL_law_15 : decode cL_law 15 = .ok (.astore_n 2, 1) := by decide +kernel
theorem dL_law_16 : decode cL_law 16 = .ok (.iconst 0, 1) := by decide +kernel
theorem dL_law_17 : decode cL_law 17 = .ok (.istore_n 3, 1) := by decide +kernel
theorem dL_law_18 : decode cL_law 18 = .ok (.iload_n 3, 1) := by decide +kernel
theorem dL_law_19 : decode cL_law 19 = .ok (.aload_n 0, 1) := by decide +kernel
theorem dL_law_20 : decode cL_law 20 = .ok (.arraylength, 1) := by decide +kernel
theorem dL_law_21 : decode cL_law 21 = .ok (.iconst 4, 1) := by decide +kernel
theorem dL_law_22 : decode cL_law 22 = .ok (.isub, 1) := by decide +kernel
theorem dL_law_23 : decode cL_law 23 = .ok (.if_icmp .gt 709, 3) := by decide +kernel
theorem dL_law_26 : decode cL_law 26 = .ok (.aload_n 0, 1) := by decide +kernel
theorem dL_law_27 : decode cL_law 27 = .ok (.iload_n 3, 1) := by decide +kernel
theorem dL_law_28 : decode cL_law 28 = .ok (.iaload, 1) := by decide +kernel
theorem dL_law_29 : decode cL_law 29 = .ok (.bipush 31, 2) := by decide +kernel
theorem dL_law_31 : decode cL_law 31 = .ok (.iand, 1) := by decide +kernel
theorem dL_law_32 : decode cL_law 32 = .ok (.tableswitch 694 0 23 #[112, 135, 148, 161, 194, 227, 250, 273, 306, 329, 352, 365, 388, 401, 424, 457, 490, 533, 566, 599, 612, 625, 648, 671], 112) := by decide +kernel
theorem dL_law_144 : decode cL_law 144 = .ok (.aload_n 1, 1) := by decide +kernel
theorem dL_law_145 : decode cL_law 145 = .ok (.aload_n 0, 1) := by decide +kernel
theorem dL_law_146 : decode cL_law 146 = .ok (.iload_n 3, 1) := by decide +kernel
theorem dL_law_147 : decode cL_law 147 = .ok (.iconst 1, 1) := by decide +kernel
theorem dL_law_148 : decode cL_law 148 = .ok (.iadd, 1) := by decide +kernel
theorem dL_law_149 : decode cL_law 149 = .ok (.iaload, 1) := by decide +kernel
theorem dL_law_150 : decode cL_law 150 = .ok (.invokevirtual 13, 3) := by decide +kernel
theorem dL_law_153 : decode cL_law 153 = .ok (.aload_n 2, 1) := by decide +kernel
theorem dL_law_154 : decode cL_law 154 = .ok (.aload_n 0, 1) := by decide +kernel
theorem dL_law_155 : decode cL_law 155 = .ok (.iload_n 3, 1) := by decide +kernel
theorem dL_law_156 : decode cL_law 156 = .ok (.iconst 1, 1) := by decide +kernel
theorem dL_law_157 : decode cL_law 157 = .ok (.iadd, 1) := by decide +kernel
theorem dL_law_158 : decode cL_law 158 = .ok (.iaload, 1) := by decide +kernel
theorem dL_law_159 : decode cL_law 159 = .ok (.invokevirtual 17, 3) := by decide +kernel
theorem dL_law_162 : decode cL_law 162 = .ok (.if_icmp .eq 564, 3) := by decide +kernel
theorem dL_law_165 : decode cL_law 165 = .ok (.iconst 0, 1) := by decide +kernel
theorem dL_law_166 : decode cL_law 166 = .ok (.ireturn, 1) := by decide +kernel
theorem dL_law_167 : decode cL_law 167 = .ok (.aload_n 1, 1) := by decide +kernel
theorem dL_law_168 : decode cL_law 168 = .ok (.invokevirtual 18, 3) := by decide +kernel
theorem dL_law_171 : decode cL_law 171 = .ok (.aload_n 2, 1) := by decide +kernel
theorem dL_law_172 : decode cL_law 172 = .ok (.invokevirtual 22, 3) := by decide +kernel
theorem dL_law_175 : decode cL_law 175 = .ok (.if_icmp .eq 551, 3) := by decide +kernel
theorem dL_law_178 : decode cL_law 178 = .ok (.iconst 0, 1) := by decide +kernel
theorem dL_law_179 : decode cL_law 179 = .ok (.ireturn, 1) := by decide +kernel
theorem dL_law_180 : decode cL_law 180 = .ok (.aload_n 1, 1) := by decide +kernel
theorem dL_law_181 : decode cL_law 181 = .ok (.invokevirtual 23, 3) := by decide +kernel
theorem dL_law_184 : decode cL_law 184 = .ok (.aload_n 2, 1) := by decide +kernel
theorem dL_law_185 : decode cL_law 185 = .ok (.invokevirtual 26, 3) := by decide +kernel
theorem dL_law_188 : decode cL_law 188 = .ok (.if_icmp .eq 538, 3) := by decide +kernel
theorem dL_law_191 : decode cL_law 191 = .ok (.iconst 0, 1) := by decide +kernel
theorem dL_law_192 : decode cL_law 192 = .ok (.ireturn, 1) := by decide +kernel
theorem dL_law_193 : decode cL_law 193 = .ok (.aload_n 1, 1) := by decide +kernel
theorem dL_law_194 : decode cL_law 194 = .ok (.aload_n 0, 1) := by decide +kernel
theorem dL_law_195 : decode cL_law 195 = .ok (.iload_n 3, 1) := by decide +kernel
theorem dL_law_196 : decode cL_law 196 = .ok (.iconst 1, 1) := by decide +kernel
theorem dL_law_197 : decode cL_law 197 = .ok (.iadd, 1) := by decide +kernel
theorem dL_law_198 : decode cL_law 198 = .ok (.iaload, 1) := by decide +kernel
theorem dL_law_199 : decode cL_law 199 = .ok (.aload_n 0, 1) := by decide +kernel
theorem dL_law_200 : decode cL_law 200 = .ok (.iload_n 3, 1) := by decide +kernel
theorem dL_law_201 : decode cL_law 201 = .ok (.iconst 2, 1) := by decide +kernel
theorem dL_law_202 : decode cL_law 202 = .ok (.iadd, 1) := by decide +kernel
theorem dL_law_203 : decode cL_law 203 = .ok (.iaload, 1) := by decide +kernel
theorem dL_law_204 : decode cL_law 204 = .ok (.invokevirtual 27, 3) := by decide +kernel
theorem dL_law_207 : decode cL_law 207 = .ok (.aload_n 2, 1) := by decide +kernel
theorem dL_law_208 : decode cL_law 208 = .ok (.aload_n 0, 1) := by decide +kernel
theorem dL_law_209 : decode cL_law 209 = .ok (.iload_n 3, 1) := by decide +kernel
theorem dL_law_210 : decode cL_law 210 = .ok (.iconst 1, 1) := by decide +kernel
theorem dL_law_211 : decode cL_law 211 = .ok (.iadd, 1) := by decide +kernel
theorem dL_law_212 : decode cL_law 212 = .ok (.iaload, 1) := by decide +kernel
theorem dL_law_213 : decode cL_law 213 = .ok (.aload_n 0, 1) := by decide +kernel
theorem dL_law_214 : decode cL_law 214 = .ok (.iload_n 3, 1) := by decide +kernel
theorem dL_law_215 : decode cL_law 215 = .ok (.iconst 2, 1) := by decide +kernel
theorem dL_law_216 : decode cL_law 216 = .ok (.iadd, 1) := by decide +kernel
theorem dL_law_217 : decode cL_law 217 = .ok (.iaload, 1) := by decide +kernel
theorem dL_law_218 : decode cL_law 218 = .ok (.invokevirtual 31, 3) := by decide +kernel
theorem dL_law_221 : decode cL_law 221 = .ok (.if_icmp .eq 505, 3) := by decide +kernel
theorem dL_law_224 : decode cL_law 224 = .ok (.iconst 0, 1) := by decide +kernel
theorem dL_law_225 : decode cL_law 225 = .ok (.ireturn, 1) := by decide +kernel
theorem dL_law_226 : decode cL_law 226 = .ok (.aload_n 1, 1) := by decide +kernel
theorem dL_law_227 : decode cL_law 227 = .ok (.aload_n 0, 1) := by decide +kernel
theorem dL_law_228 : decode cL_law 228 = .ok (.iload_n 3, 1) := by decide +kernel
theorem dL_law_229 : decode cL_law 229 = .ok (.iconst 1, 1) := by decide +kernel
theorem dL_law_230 : decode cL_law 230 = .ok (.iadd, 1) := by decide +kernel
theorem dL_law_231 : decode cL_law 231 = .ok (.iaload, 1) := by decide +kernel
theorem dL_law_232 : decode cL_law 232 = .ok (.aload_n 0, 1) := by decide +kernel
theorem dL_law_233 : decode cL_law 233 = .ok (.iload_n 3, 1) := by decide +kernel
theorem dL_law_234 : decode cL_law 234 = .ok (.iconst 2, 1) := by decide +kernel
theorem dL_law_235 : decode cL_law 235 = .ok (.iadd, 1) := by decide +kernel
theorem dL_law_236 : decode cL_law 236 = .ok (.iaload, 1) := by decide +kernel
theorem dL_law_237 : decode cL_law 237 = .ok (.invokevirtual 32, 3) := by decide +kernel
theorem dL_law_240 : decode cL_law 240 = .ok (.aload_n 2, 1) := by decide +kernel
theorem dL_law_241 : decode cL_law 241 = .ok (.aload_n 0, 1) := by decide +kernel
theorem dL_law_242 : decode cL_law 242 = .ok (.iload_n 3, 1) := by decide +kernel
theorem dL_law_243 : decode cL_law 243 = .ok (.iconst 1, 1) := by decide +kernel
theorem dL_law_244 : decode cL_law 244 = .ok (.iadd, 1) := by decide +kernel
theorem dL_law_245 : decode cL_law 245 = .ok (.iaload, 1) := by decide +kernel
theorem dL_law_246 : decode cL_law 246 = .ok (.aload_n 0, 1) := by decide +kernel
theorem dL_law_247 : decode cL_law 247 = .ok (.iload_n 3, 1) := by decide +kernel
theorem dL_law_248 : decode cL_law 248 = .ok (.iconst 2, 1) := by decide +kernel
theorem dL_law_249 : decode cL_law 249 = .ok (.iadd, 1) := by decide +kernel
theorem dL_law_250 : decode cL_law 250 = .ok (.iaload, 1) := by decide +kernel
theorem dL_law_251 : decode cL_law 251 = .ok (.invokevirtual 35, 3) := by decide +kernel
theorem dL_law_254 : decode cL_law 254 = .ok (.if_icmp .eq 472, 3) := by decide +kernel
theorem dL_law_257 : decode cL_law 257 = .ok (.iconst 0, 1) := by decide +kernel
theorem dL_law_258 : decode cL_law 258 = .ok (.ireturn, 1) := by decide +kernel
theorem dL_law_259 : decode cL_law 259 = .ok (.aload_n 1, 1) := by decide +kernel
theorem dL_law_260 : decode cL_law 260 = .ok (.aload_n 0, 1) := by decide +kernel
theorem dL_law_261 : decode cL_law 261 = .ok (.iload_n 3, 1) := by decide +kernel
theorem dL_law_262 : decode cL_law 262 = .ok (.iconst 1, 1) := by decide +kernel
theorem dL_law_263 : decode cL_law 263 = .ok (.iadd, 1) := by decide +kernel
theorem dL_law_264 : decode cL_law 264 = .ok (.iaload, 1) := by decide +kernel
theorem dL_law_265 : decode cL_law 265 = .ok (.invokevirtual 36, 3) := by decide +kernel
theorem dL_law_268 : decode cL_law 268 = .ok (.aload_n 2, 1) := by decide +kernel
theorem dL_law_269 : decode cL_law 269 = .ok (.aload_n 0, 1) := by decide +kernel
theorem dL_law_270 : decode cL_law 270 = .ok (.iload_n 3, 1) := by decide +kernel
theorem dL_law_271 : decode cL_law 271 = .ok (.iconst 1, 1) := by decide +kernel
theorem dL_law_272 : decode cL_law 272 = .ok (.iadd, 1) := by decide +kernel
theorem dL_law_273 : decode cL_law 273 = .ok (.iaload, 1) := by decide +kernel
theorem dL_law_274 : decode cL_law 274 = .ok (.invokevirtual 39, 3) := by decide +kernel
theorem dL_law_277 : decode cL_law 277 = .ok (.if_icmp .eq 449, 3) := by decide +kernel
theorem dL_law_280 : decode cL_law 280 = .ok (.iconst 0, 1) := by decide +kernel
theorem dL_law_281 : decode cL_law 281 = .ok (.ireturn, 1) := by decide +kernel
theorem dL_law_282 : decode cL_law 282 = .ok (.aload_n 1, 1) := by decide +kernel
theorem dL_law_283 : decode cL_law 283 = .ok (.aload_n 0, 1) := by decide +kernel
theorem dL_law_284 : decode cL_law 284 = .ok (.iload_n 3, 1) := by decide +kernel
theorem dL_law_285 : decode cL_law 285 = .ok (.iconst 1, 1) := by decide +kernel
theorem dL_law_286 : decode cL_law 286 = .ok (.iadd, 1) := by decide +kernel
theorem dL_law_287 : decode cL_law 287 = .ok (.iaload, 1) := by decide +kernel
theorem dL_law_288 : decode cL_law 288 = .ok (.invokevirtual 40, 3) := by decide +kernel
theorem dL_law_291 : decode cL_law 291 = .ok (.aload_n 2, 1) := by decide +kernel
theorem dL_law_292 : decode cL_law 292 = .ok (.aload_n 0, 1) := by decide +kernel
theorem dL_law_293 : decode cL_law 293 = .ok (.iload_n 3, 1) := by decide +kernel
theorem dL_law_294 : decode cL_law 294 = .ok (.iconst 1, 1) := by decide +kernel
theorem dL_law_295 : decode cL_law 295 = .ok (.iadd, 1) := by decide +kernel
theorem dL_law_296 : decode cL_law 296 = .ok (.iaload, 1) := by decide +kernel
theorem dL_law_297 : decode cL_law 297 = .ok (.invokevirtual 43, 3) := by decide +kernel
theorem dL_law_300 : decode cL_law 300 = .ok (.if_icmp .eq 426, 3) := by decide +kernel
theorem dL_law_303 : decode cL_law 303 = .ok (.iconst 0, 1) := by decide +kernel
theorem dL_law_304 : decode cL_law 304 = .ok (.ireturn, 1) := by decide +kernel
theorem dL_law_305 : decode cL_law 305 = .ok (.aload_n 1, 1) := by decide +kernel
theorem dL_law_306 : decode cL_law 306 = .ok (.aload_n 0, 1) := by decide +kernel
theorem dL_law_307 : decode cL_law 307 = .ok (.iload_n 3, 1) := by decide +kernel
theorem dL_law_308 : decode cL_law 308 = .ok (.iconst 1, 1) := by decide +kernel
theorem dL_law_309 : decode cL_law 309 = .ok (.iadd, 1) := by decide +kernel
theorem dL_law_310 : decode cL_law 310 = .ok (.iaload, 1) := by decide +kernel
theorem dL_law_311 : decode cL_law 311 = .ok (.aload_n 0, 1) := by decide +kernel
theorem dL_law_312 : decode cL_law 312 = .ok (.iload_n 3, 1) := by decide +kernel
theorem dL_law_313 : decode cL_law 313 = .ok (.iconst 2, 1) := by decide +kernel
theorem dL_law_314 : decode cL_law 314 = .ok (.iadd, 1) := by decide +kernel
theorem dL_law_315 : decode cL_law 315 = .ok (.iaload, 1) := by decide +kernel
theorem dL_law_316 : decode cL_law 316 = .ok (.invokevirtual 44, 3) := by decide +kernel
theorem dL_law_319 : decode cL_law 319 = .ok (.aload_n 2, 1) := by decide +kernel
theorem dL_law_320 : decode cL_law 320 = .ok (.aload_n 0, 1) := by decide +kernel
theorem dL_law_321 : decode cL_law 321 = .ok (.iload_n 3, 1) := by decide +kernel
theorem dL_law_322 : decode cL_law 322 = .ok (.iconst 1, 1) := by decide +kernel
theorem dL_law_323 : decode cL_law 323 = .ok (.iadd, 1) := by decide +kernel
theorem dL_law_324 : decode cL_law 324 = .ok (.iaload, 1) := by decide +kernel
theorem dL_law_325 : decode cL_law 325 = .ok (.aload_n 0, 1) := by decide +kernel
theorem dL_law_326 : decode cL_law 326 = .ok (.iload_n 3, 1) := by decide +kernel
theorem dL_law_327 : decode cL_law 327 = .ok (.iconst 2, 1) := by decide +kernel
theorem dL_law_328 : decode cL_law 328 = .ok (.iadd, 1) := by decide +kernel
theorem dL_law_329 : decode cL_law 329 = .ok (.iaload, 1) := by decide +kernel
theorem dL_law_330 : decode cL_law 330 = .ok (.invokevirtual 47, 3) := by decide +kernel
theorem dL_law_333 : decode cL_law 333 = .ok (.if_icmp .eq 393, 3) := by decide +kernel
theorem dL_law_336 : decode cL_law 336 = .ok (.iconst 0, 1) := by decide +kernel
theorem dL_law_337 : decode cL_law 337 = .ok (.ireturn, 1) := by decide +kernel
theorem dL_law_338 : decode cL_law 338 = .ok (.aload_n 1, 1) := by decide +kernel
theorem dL_law_339 : decode cL_law 339 = .ok (.aload_n 0, 1) := by decide +kernel
theorem dL_law_340 : decode cL_law 340 = .ok (.iload_n 3, 1) := by decide +kernel
theorem dL_law_341 : decode cL_law 341 = .ok (.iconst 1, 1) := by decide +kernel
theorem dL_law_342 : decode cL_law 342 = .ok (.iadd, 1) := by decide +kernel
theorem dL_law_343 : decode cL_law 343 = .ok (.iaload, 1) := by decide +kernel
theorem dL_law_344 : decode cL_law 344 = .ok (.invokevirtual 48, 3) := by decide +kernel
theorem dL_law_347 : decode cL_law 347 = .ok (.aload_n 2, 1) := by decide +kernel
theorem dL_law_348 : decode cL_law 348 = .ok (.aload_n 0, 1) := by decide +kernel
theorem dL_law_349 : decode cL_law 349 = .ok (.iload_n 3, 1) := by decide +kernel
theorem dL_law_350 : decode cL_law 350 = .ok (.iconst 1, 1) := by decide +kernel
theorem dL_law_351 : decode cL_law 351 = .ok (.iadd, 1) := by decide +kernel
theorem dL_law_352 : decode cL_law 352 = .ok (.iaload, 1) := by decide +kernel
theorem dL_law_353 : decode cL_law 353 = .ok (.invokevirtual 51, 3) := by decide +kernel
theorem dL_law_356 : decode cL_law 356 = .ok (.if_icmp .eq 370, 3) := by decide +kernel
theorem dL_law_359 : decode cL_law 359 = .ok (.iconst 0, 1) := by decide +kernel
theorem dL_law_360 : decode cL_law 360 = .ok (.ireturn, 1) := by decide +kernel
theorem dL_law_361 : decode cL_law 361 = .ok (.aload_n 1, 1) := by decide +kernel
theorem dL_law_362 : decode cL_law 362 = .ok (.aload_n 0, 1) := by decide +kernel
theorem dL_law_363 : decode cL_law 363 = .ok (.iload_n 3, 1) := by decide +kernel
theorem dL_law_364 : decode cL_law 364 = .ok (.iconst 1, 1) := by decide +kernel
theorem dL_law_365 : decode cL_law 365 = .ok (.iadd, 1) := by decide +kernel
theorem dL_law_366 : decode cL_law 366 = .ok (.iaload, 1) := by decide +kernel
theorem dL_law_367 : decode cL_law 367 = .ok (.invokevirtual 52, 3) := by decide +kernel
theorem dL_law_370 : decode cL_law 370 = .ok (.aload_n 2, 1) := by decide +kernel
theorem dL_law_371 : decode cL_law 371 = .ok (.aload_n 0, 1) := by decide +kernel
theorem dL_law_372 : decode cL_law 372 = .ok (.iload_n 3, 1) := by decide +kernel
theorem dL_law_373 : decode cL_law 373 = .ok (.iconst 1, 1) := by decide +kernel
theorem dL_law_374 : decode cL_law 374 = .ok (.iadd, 1) := by decide +kernel
theorem dL_law_375 : decode cL_law 375 = .ok (.iaload, 1) := by decide +kernel
theorem dL_law_376 : decode cL_law 376 = .ok (.invokevirtual 55, 3) := by decide +kernel
theorem dL_law_379 : decode cL_law 379 = .ok (.if_icmp .eq 347, 3) := by decide +kernel
theorem dL_law_382 : decode cL_law 382 = .ok (.iconst 0, 1) := by decide +kernel
theorem dL_law_383 : decode cL_law 383 = .ok (.ireturn, 1) := by decide +kernel
theorem dL_law_384 : decode cL_law 384 = .ok (.aload_n 1, 1) := by decide +kernel
theorem dL_law_385 : decode cL_law 385 = .ok (.invokevirtual 56, 3) := by decide +kernel
theorem dL_law_388 : decode cL_law 388 = .ok (.aload_n 2, 1) := by decide +kernel
theorem dL_law_389 : decode cL_law 389 = .ok (.invokevirtual 59, 3) := by decide +kernel
theorem dL_law_392 : decode cL_law 392 = .ok (.if_icmp .eq 334, 3) := by decide +kernel
theorem dL_law_395 : decode cL_law 395 = .ok (.iconst 0, 1) := by decide +kernel
theorem dL_law_396 : decode cL_law 396 = .ok (.ireturn, 1) := by decide +kernel
theorem dL_law_397 : decode cL_law 397 = .ok (.aload_n 1, 1) := by decide +kernel
theorem dL_law_398 : decode cL_law 398 = .ok (.aload_n 0, 1) := by decide +kernel
theorem dL_law_399 : decode cL_law 399 = .ok (.iload_n 3, 1) := by decide +kernel
theorem dL_law_400 : decode cL_law 400 = .ok (.iconst 1, 1) := by decide +kernel
theorem dL_law_401 : decode cL_law 401 = .ok (.iadd, 1) := by decide +kernel
theorem dL_law_402 : decode cL_law 402 = .ok (.iaload, 1) := by decide +kernel
theorem dL_law_403 : decode cL_law 403 = .ok (.invokevirtual 60, 3) := by decide +kernel
theorem dL_law_406 : decode cL_law 406 = .ok (.aload_n 2, 1) := by decide +kernel
theorem dL_law_407 : decode cL_law 407 = .ok (.aload_n 0, 1) := by decide +kernel
theorem dL_law_408 : decode cL_law 408 = .ok (.iload_n 3, 1) := by decide +kernel
theorem dL_law_409 : decode cL_law 409 = .ok (.iconst 1, 1) := by decide +kernel
theorem dL_law_410 : decode cL_law 410 = .ok (.iadd, 1) := by decide +kernel
theorem dL_law_411 : decode cL_law 411 = .ok (.iaload, 1) := by decide +kernel
theorem dL_law_412 : decode cL_law 412 = .ok (.invokevirtual 63, 3) := by decide +kernel
theorem dL_law_415 : decode cL_law 415 = .ok (.if_icmp .eq 311, 3) := by decide +kernel
theorem dL_law_418 : decode cL_law 418 = .ok (.iconst 0, 1) := by decide +kernel
theorem dL_law_419 : decode cL_law 419 = .ok (.ireturn, 1) := by decide +kernel
theorem dL_law_420 : decode cL_law 420 = .ok (.aload_n 1, 1) := by decide +kernel
theorem dL_law_421 : decode cL_law 421 = .ok (.invokevirtual 64, 3) := by decide +kernel
theorem dL_law_424 : decode cL_law 424 = .ok (.aload_n 2, 1) := by decide +kernel
theorem dL_law_425 : decode cL_law 425 = .ok (.invokevirtual 67, 3) := by decide +kernel
theorem dL_law_428 : decode cL_law 428 = .ok (.if_icmp .eq 298, 3) := by decide +kernel
theorem dL_law_431 : decode cL_law 431 = .ok (.iconst 0, 1) := by decide +kernel
theorem dL_law_432 : decode cL_law 432 = .ok (.ireturn, 1) := by decide +kernel
theorem dL_law_433 : decode cL_law 433 = .ok (.aload_n 1, 1) := by decide +kernel
theorem dL_law_434 : decode cL_law 434 = .ok (.aload_n 0, 1) := by decide +kernel
theorem dL_law_435 : decode cL_law 435 = .ok (.iload_n 3, 1) := by decide +kernel
theorem dL_law_436 : decode cL_law 436 = .ok (.iconst 1, 1) := by decide +kernel
theorem dL_law_437 : decode cL_law 437 = .ok (.iadd, 1) := by decide +kernel
theorem dL_law_438 : decode cL_law 438 = .ok (.iaload, 1) := by decide +kernel
theorem dL_law_439 : decode cL_law 439 = .ok (.invokevirtual 68, 3) := by decide +kernel
theorem dL_law_442 : decode cL_law 442 = .ok (.aload_n 2, 1) := by decide +kernel
theorem dL_law_443 : decode cL_law 443 = .ok (.aload_n 0, 1) := by decide +kernel
theorem dL_law_444 : decode cL_law 444 = .ok (.iload_n 3, 1) := by decide +kernel
theorem dL_law_445 : decode cL_law 445 = .ok (.iconst 1, 1) := by decide +kernel
theorem dL_law_446 : decode cL_law 446 = .ok (.iadd, 1) := by decide +kernel
theorem dL_law_447 : decode cL_law 447 = .ok (.iaload, 1) := by decide +kernel
theorem dL_law_448 : decode cL_law 448 = .ok (.invokevirtual 71, 3) := by decide +kernel
theorem dL_law_451 : decode cL_law 451 = .ok (.if_icmp .eq 275, 3) := by decide +kernel
theorem dL_law_454 : decode cL_law 454 = .ok (.iconst 0, 1) := by decide +kernel
theorem dL_law_455 : decode cL_law 455 = .ok (.ireturn, 1) := by decide +kernel
theorem dL_law_456 : decode cL_law 456 = .ok (.aload_n 1, 1) := by decide +kernel
theorem dL_law_457 : decode cL_law 457 = .ok (.aload_n 0, 1) := by decide +kernel
theorem dL_law_458 : decode cL_law 458 = .ok (.iload_n 3, 1) := by decide +kernel
theorem dL_law_459 : decode cL_law 459 = .ok (.iconst 1, 1) := by decide +kernel
theorem dL_law_460 : decode cL_law 460 = .ok (.iadd, 1) := by decide +kernel
theorem dL_law_461 : decode cL_law 461 = .ok (.iaload, 1) := by decide +kernel
theorem dL_law_462 : decode cL_law 462 = .ok (.aload_n 0, 1) := by decide +kernel
theorem dL_law_463 : decode cL_law 463 = .ok (.iload_n 3, 1) := by decide +kernel
theorem dL_law_464 : decode cL_law 464 = .ok (.iconst 2, 1) := by decide +kernel
theorem dL_law_465 : decode cL_law 465 = .ok (.iadd, 1) := by decide +kernel
theorem dL_law_466 : decode cL_law 466 = .ok (.iaload, 1) := by decide +kernel
theorem dL_law_467 : decode cL_law 467 = .ok (.invokevirtual 72, 3) := by decide +kernel
theorem dL_law_470 : decode cL_law 470 = .ok (.aload_n 2, 1) := by decide +kernel
theorem dL_law_471 : decode cL_law 471 = .ok (.aload_n 0, 1) := by decide +kernel
theorem dL_law_472 : decode cL_law 472 = .ok (.iload_n 3, 1) := by decide +kernel
theorem dL_law_473 : decode cL_law 473 = .ok (.iconst 1, 1) := by decide +kernel
theorem dL_law_474 : decode cL_law 474 = .ok (.iadd, 1) := by decide +kernel
theorem dL_law_475 : decode cL_law 475 = .ok (.iaload, 1) := by decide +kernel
theorem dL_law_476 : decode cL_law 476 = .ok (.aload_n 0, 1) := by decide +kernel
theorem dL_law_477 : decode cL_law 477 = .ok (.iload_n 3, 1) := by decide +kernel
theorem dL_law_478 : decode cL_law 478 = .ok (.iconst 2, 1) := by decide +kernel
theorem dL_law_479 : decode cL_law 479 = .ok (.iadd, 1) := by decide +kernel
theorem dL_law_480 : decode cL_law 480 = .ok (.iaload, 1) := by decide +kernel
theorem dL_law_481 : decode cL_law 481 = .ok (.invokevirtual 75, 3) := by decide +kernel
theorem dL_law_484 : decode cL_law 484 = .ok (.if_icmp .eq 242, 3) := by decide +kernel
theorem dL_law_487 : decode cL_law 487 = .ok (.iconst 0, 1) := by decide +kernel
theorem dL_law_488 : decode cL_law 488 = .ok (.ireturn, 1) := by decide +kernel
theorem dL_law_489 : decode cL_law 489 = .ok (.aload_n 1, 1) := by decide +kernel
theorem dL_law_490 : decode cL_law 490 = .ok (.aload_n 0, 1) := by decide +kernel
theorem dL_law_491 : decode cL_law 491 = .ok (.iload_n 3, 1) := by decide +kernel
theorem dL_law_492 : decode cL_law 492 = .ok (.iconst 1, 1) := by decide +kernel
theorem dL_law_493 : decode cL_law 493 = .ok (.iadd, 1) := by decide +kernel
theorem dL_law_494 : decode cL_law 494 = .ok (.iaload, 1) := by decide +kernel
theorem dL_law_495 : decode cL_law 495 = .ok (.aload_n 0, 1) := by decide +kernel
theorem dL_law_496 : decode cL_law 496 = .ok (.iload_n 3, 1) := by decide +kernel
theorem dL_law_497 : decode cL_law 497 = .ok (.iconst 2, 1) := by decide +kernel
theorem dL_law_498 : decode cL_law 498 = .ok (.iadd, 1) := by decide +kernel
theorem dL_law_499 : decode cL_law 499 = .ok (.iaload, 1) := by decide +kernel
theorem dL_law_500 : decode cL_law 500 = .ok (.invokevirtual 76, 3) := by decide +kernel
theorem dL_law_503 : decode cL_law 503 = .ok (.aload_n 2, 1) := by decide +kernel
theorem dL_law_504 : decode cL_law 504 = .ok (.aload_n 0, 1) := by decide +kernel
theorem dL_law_505 : decode cL_law 505 = .ok (.iload_n 3, 1) := by decide +kernel
theorem dL_law_506 : decode cL_law 506 = .ok (.iconst 1, 1) := by decide +kernel
theorem dL_law_507 : decode cL_law 507 = .ok (.iadd, 1) := by decide +kernel
theorem dL_law_508 : decode cL_law 508 = .ok (.iaload, 1) := by decide +kernel
theorem dL_law_509 : decode cL_law 509 = .ok (.aload_n 0, 1) := by decide +kernel
theorem dL_law_510 : decode cL_law 510 = .ok (.iload_n 3, 1) := by decide +kernel
theorem dL_law_511 : decode cL_law 511 = .ok (.iconst 2, 1) := by decide +kernel
theorem dL_law_512 : decode cL_law 512 = .ok (.iadd, 1) := by decide +kernel
theorem dL_law_513 : decode cL_law 513 = .ok (.iaload, 1) := by decide +kernel
theorem dL_law_514 : decode cL_law 514 = .ok (.invokevirtual 79, 3) := by decide +kernel
theorem dL_law_517 : decode cL_law 517 = .ok (.if_icmp .eq 209, 3) := by decide +kernel
theorem dL_law_520 : decode cL_law 520 = .ok (.iconst 0, 1) := by decide +kernel
theorem dL_law_521 : decode cL_law 521 = .ok (.ireturn, 1) := by decide +kernel
theorem dL_law_522 : decode cL_law 522 = .ok (.aload_n 1, 1) := by decide +kernel
theorem dL_law_523 : decode cL_law 523 = .ok (.aload_n 0, 1) := by decide +kernel
theorem dL_law_524 : decode cL_law 524 = .ok (.iload_n 3, 1) := by decide +kernel
theorem dL_law_525 : decode cL_law 525 = .ok (.iconst 1, 1) := by decide +kernel
theorem dL_law_526 : decode cL_law 526 = .ok (.iadd, 1) := by decide +kernel
theorem dL_law_527 : decode cL_law 527 = .ok (.iaload, 1) := by decide +kernel
theorem dL_law_528 : decode cL_law 528 = .ok (.aload_n 0, 1) := by decide +kernel
theorem dL_law_529 : decode cL_law 529 = .ok (.iload_n 3, 1) := by decide +kernel
theorem dL_law_530 : decode cL_law 530 = .ok (.iconst 2, 1) := by decide +kernel
theorem dL_law_531 : decode cL_law 531 = .ok (.iadd, 1) := by decide +kernel
theorem dL_law_532 : decode cL_law 532 = .ok (.iaload, 1) := by decide +kernel
theorem dL_law_533 : decode cL_law 533 = .ok (.aload_n 0, 1) := by decide +kernel
theorem dL_law_534 : decode cL_law 534 = .ok (.iload_n 3, 1) := by decide +kernel
theorem dL_law_535 : decode cL_law 535 = .ok (.iconst 3, 1) := by decide +kernel
theorem dL_law_536 : decode cL_law 536 = .ok (.iadd, 1) := by decide +kernel
theorem dL_law_537 : decode cL_law 537 = .ok (.iaload, 1) := by decide +kernel
theorem dL_law_538 : decode cL_law 538 = .ok (.invokevirtual 80, 3) := by decide +kernel
theorem dL_law_541 : decode cL_law 541 = .ok (.aload_n 2, 1) := by decide +kernel
theorem dL_law_542 : decode cL_law 542 = .ok (.aload_n 0, 1) := by decide +kernel
theorem dL_law_543 : decode cL_law 543 = .ok (.iload_n 3, 1) := by decide +kernel
theorem dL_law_544 : decode cL_law 544 = .ok (.iconst 1, 1) := by decide +kernel
theorem dL_law_545 : decode cL_law 545 = .ok (.iadd, 1) := by decide +kernel
theorem dL_law_546 : decode cL_law 546 = .ok (.iaload, 1) := by decide +kernel
theorem dL_law_547 : decode cL_law 547 = .ok (.aload_n 0, 1) := by decide +kernel
theorem dL_law_548 : decode cL_law 548 = .ok (.iload_n 3, 1) := by decide +kernel
theorem dL_law_549 : decode cL_law 549 = .ok (.iconst 2, 1) := by decide +kernel
theorem dL_law_550 : decode cL_law 550 = .ok (.iadd, 1) := by decide +kernel
theorem dL_law_551 : decode cL_law 551 = .ok (.iaload, 1) := by decide +kernel
theorem dL_law_552 : decode cL_law 552 = .ok (.aload_n 0, 1) := by decide +kernel
theorem dL_law_553 : decode cL_law 553 = .ok (.iload_n 3, 1) := by decide +kernel
theorem dL_law_554 : decode cL_law 554 = .ok (.iconst 3, 1) := by decide +kernel
theorem dL_law_555 : decode cL_law 555 = .ok (.iadd, 1) := by decide +kernel
theorem dL_law_556 : decode cL_law 556 = .ok (.iaload, 1) := by decide +kernel
theorem dL_law_557 : decode cL_law 557 = .ok (.invokevirtual 84, 3) := by decide +kernel
theorem dL_law_560 : decode cL_law 560 = .ok (.if_icmp .eq 166, 3) := by decide +kernel
theorem dL_law_563 : decode cL_law 563 = .ok (.iconst 0, 1) := by decide +kernel
theorem dL_law_564 : decode cL_law 564 = .ok (.ireturn, 1) := by decide +kernel
theorem dL_law_565 : decode cL_law 565 = .ok (.aload_n 1, 1) := by decide +kernel
theorem dL_law_566 : decode cL_law 566 = .ok (.aload_n 0, 1) := by decide +kernel
theorem dL_law_567 : decode cL_law 567 = .ok (.iload_n 3, 1) := by decide +kernel
theorem dL_law_568 : decode cL_law 568 = .ok (.iconst 1, 1) := by decide +kernel
theorem dL_law_569 : decode cL_law 569 = .ok (.iadd, 1) := by decide +kernel
theorem dL_law_570 : decode cL_law 570 = .ok (.iaload, 1) := by decide +kernel
theorem dL_law_571 : decode cL_law 571 = .ok (.aload_n 0, 1) := by decide +kernel
theorem dL_law_572 : decode cL_law 572 = .ok (.iload_n 3, 1) := by decide +kernel
theorem dL_law_573 : decode cL_law 573 = .ok (.iconst 2, 1) := by decide +kernel
theorem dL_law_574 : decode cL_law 574 = .ok (.iadd, 1) := by decide +kernel
theorem dL_law_575 : decode cL_law 575 = .ok (.iaload, 1) := by decide +kernel
theorem dL_law_576 : decode cL_law 576 = .ok (.invokevirtual 85, 3) := by decide +kernel
theorem dL_law_579 : decode cL_law 579 = .ok (.aload_n 2, 1) := by decide +kernel
theorem dL_law_580 : decode cL_law 580 = .ok (.aload_n 0, 1) := by decide +kernel
theorem dL_law_581 : decode cL_law 581 = .ok (.iload_n 3, 1) := by decide +kernel
theorem dL_law_582 : decode cL_law 582 = .ok (.iconst 1, 1) := by decide +kernel
theorem dL_law_583 : decode cL_law 583 = .ok (.iadd, 1) := by decide +kernel
theorem dL_law_584 : decode cL_law 584 = .ok (.iaload, 1) := by decide +kernel
theorem dL_law_585 : decode cL_law 585 = .ok (.aload_n 0, 1) := by decide +kernel
theorem dL_law_586 : decode cL_law 586 = .ok (.iload_n 3, 1) := by decide +kernel
theorem dL_law_587 : decode cL_law 587 = .ok (.iconst 2, 1) := by decide +kernel
theorem dL_law_588 : decode cL_law 588 = .ok (.iadd, 1) := by decide +kernel
theorem dL_law_589 : decode cL_law 589 = .ok (.iaload, 1) := by decide +kernel
theorem dL_law_590 : decode cL_law 590 = .ok (.invokevirtual 88, 3) := by decide +kernel
theorem dL_law_593 : decode cL_law 593 = .ok (.if_icmp .eq 133, 3) := by decide +kernel
theorem dL_law_596 : decode cL_law 596 = .ok (.iconst 0, 1) := by decide +kernel
theorem dL_law_597 : decode cL_law 597 = .ok (.ireturn, 1) := by decide +kernel
theorem dL_law_598 : decode cL_law 598 = .ok (.aload_n 1, 1) := by decide +kernel
theorem dL_law_599 : decode cL_law 599 = .ok (.aload_n 0, 1) := by decide +kernel
theorem dL_law_600 : decode cL_law 600 = .ok (.iload_n 3, 1) := by decide +kernel
theorem dL_law_601 : decode cL_law 601 = .ok (.iconst 1, 1) := by decide +kernel
theorem dL_law_602 : decode cL_law 602 = .ok (.iadd, 1) := by decide +kernel
theorem dL_law_603 : decode cL_law 603 = .ok (.iaload, 1) := by decide +kernel
theorem dL_law_604 : decode cL_law 604 = .ok (.aload_n 0, 1) := by decide +kernel
theorem dL_law_605 : decode cL_law 605 = .ok (.iload_n 3, 1) := by decide +kernel
theorem dL_law_606 : decode cL_law 606 = .ok (.iconst 2, 1) := by decide +kernel
theorem dL_law_607 : decode cL_law 607 = .ok (.iadd, 1) := by decide +kernel
theorem dL_law_608 : decode cL_law 608 = .ok (.iaload, 1) := by decide +kernel
theorem dL_law_609 : decode cL_law 609 = .ok (.invokevirtual 89, 3) := by decide +kernel
theorem dL_law_612 : decode cL_law 612 = .ok (.aload_n 2, 1) := by decide +kernel
theorem dL_law_613 : decode cL_law 613 = .ok (.aload_n 0, 1) := by decide +kernel
theorem dL_law_614 : decode cL_law 614 = .ok (.iload_n 3, 1) := by decide +kernel
theorem dL_law_615 : decode cL_law 615 = .ok (.iconst 1, 1) := by decide +kernel
theorem dL_law_616 : decode cL_law 616 = .ok (.iadd, 1) := by decide +kernel
theorem dL_law_617 : decode cL_law 617 = .ok (.iaload, 1) := by decide +kernel
theorem dL_law_618 : decode cL_law 618 = .ok (.aload_n 0, 1) := by decide +kernel
theorem dL_law_619 : decode cL_law 619 = .ok (.iload_n 3, 1) := by decide +kernel
theorem dL_law_620 : decode cL_law 620 = .ok (.iconst 2, 1) := by decide +kernel
theorem dL_law_621 : decode cL_law 621 = .ok (.iadd, 1) := by decide +kernel
theorem dL_law_622 : decode cL_law 622 = .ok (.iaload, 1) := by decide +kernel
theorem dL_law_623 : decode cL_law 623 = .ok (.invokevirtual 92, 3) := by decide +kernel
theorem dL_law_626 : decode cL_law 626 = .ok (.if_icmp .eq 100, 3) := by decide +kernel
theorem dL_law_629 : decode cL_law 629 = .ok (.iconst 0, 1) := by decide +kernel
theorem dL_law_630 : decode cL_law 630 = .ok (.ireturn, 1) := by decide +kernel
theorem dL_law_631 : decode cL_law 631 = .ok (.aload_n 1, 1) := by decide +kernel
theorem dL_law_632 : decode cL_law 632 = .ok (.invokevirtual 93, 3) := by decide +kernel
theorem dL_law_635 : decode cL_law 635 = .ok (.aload_n 2, 1) := by decide +kernel
theorem dL_law_636 : decode cL_law 636 = .ok (.invokevirtual 96, 3) := by decide +kernel
theorem dL_law_639 : decode cL_law 639 = .ok (.if_icmp .eq 87, 3) := by decide +kernel
theorem dL_law_642 : decode cL_law 642 = .ok (.iconst 0, 1) := by decide +kernel
theorem dL_law_643 : decode cL_law 643 = .ok (.ireturn, 1) := by decide +kernel
theorem dL_law_644 : decode cL_law 644 = .ok (.aload_n 1, 1) := by decide +kernel
theorem dL_law_645 : decode cL_law 645 = .ok (.invokevirtual 97, 3) := by decide +kernel
theorem dL_law_648 : decode cL_law 648 = .ok (.aload_n 2, 1) := by decide +kernel
theorem dL_law_649 : decode cL_law 649 = .ok (.invokevirtual 100, 3) := by decide +kernel
theorem dL_law_652 : decode cL_law 652 = .ok (.if_icmp .eq 74, 3) := by decide +kernel
theorem dL_law_655 : decode cL_law 655 = .ok (.iconst 0, 1) := by decide +kernel
theorem dL_law_656 : decode cL_law 656 = .ok (.ireturn, 1) := by decide +kernel
theorem dL_law_657 : decode cL_law 657 = .ok (.aload_n 1, 1) := by decide +kernel
theorem dL_law_658 : decode cL_law 658 = .ok (.aload_n 0, 1) := by decide +kernel
theorem dL_law_659 : decode cL_law 659 = .ok (.iload_n 3, 1) := by decide +kernel
theorem dL_law_660 : decode cL_law 660 = .ok (.iconst 1, 1) := by decide +kernel
theorem dL_law_661 : decode cL_law 661 = .ok (.iadd, 1) := by decide +kernel
theorem dL_law_662 : decode cL_law 662 = .ok (.iaload, 1) := by decide +kernel
theorem dL_law_663 : decode cL_law 663 = .ok (.invokevirtual 101, 3) := by decide +kernel
theorem dL_law_666 : decode cL_law 666 = .ok (.aload_n 2, 1) := by decide +kernel
theorem dL_law_667 : decode cL_law 667 = .ok (.aload_n 0, 1) := by decide +kernel
theorem dL_law_668 : decode cL_law 668 = .ok (.iload_n 3, 1) := by decide +kernel
theorem dL_law_669 : decode cL_law 669 = .ok (.iconst 1, 1) := by decide +kernel
theorem dL_law_670 : decode cL_law 670 = .ok (.iadd, 1) := by decide +kernel
theorem dL_law_671 : decode cL_law 671 = .ok (.iaload, 1) := by decide +kernel
theorem dL_law_672 : decode cL_law 672 = .ok (.invokevirtual 104, 3) := by decide +kernel
theorem dL_law_675 : decode cL_law 675 = .ok (.if_icmp .eq 51, 3) := by decide +kernel
theorem dL_law_678 : decode cL_law 678 = .ok (.iconst 0, 1) := by decide +kernel
theorem dL_law_679 : decode cL_law 679 = .ok (.ireturn, 1) := by decide +kernel
theorem dL_law_680 : decode cL_law 680 = .ok (.aload_n 1, 1) := by decide +kernel
theorem dL_law_681 : decode cL_law 681 = .ok (.aload_n 0, 1) := by decide +kernel
theorem dL_law_682 : decode cL_law 682 = .ok (.iload_n 3, 1) := by decide +kernel
theorem dL_law_683 : decode cL_law 683 = .ok (.iconst 1, 1) := by decide +kernel
theorem dL_law_684 : decode cL_law 684 = .ok (.iadd, 1) := by decide +kernel
theorem dL_law_685 : decode cL_law 685 = .ok (.iaload, 1) := by decide +kernel
theorem dL_law_686 : decode cL_law 686 = .ok (.invokevirtual 105, 3) := by decide +kernel
theorem dL_law_689 : decode cL_law 689 = .ok (.aload_n 2, 1) := by decide +kernel
theorem dL_law_690 : decode cL_law 690 = .ok (.aload_n 0, 1) := by decide +kernel
theorem dL_law_691 : decode cL_law 691 = .ok (.iload_n 3, 1) := by decide +kernel
theorem dL_law_692 : decode cL_law 692 = .ok (.iconst 1, 1) := by decide +kernel
theorem dL_law_693 : decode cL_law 693 = .ok (.iadd, 1) := by decide +kernel
theorem dL_law_694 : decode cL_law 694 = .ok (.iaload, 1) := by decide +kernel
theorem dL_law_695 : decode cL_law 695 = .ok (.invokevirtual 108, 3) := by decide +kernel
theorem dL_law_698 : decode cL_law 698 = .ok (.if_icmp .eq 28, 3) := by decide +kernel
theorem dL_law_701 : decode cL_law 701 = .ok (.iconst 0, 1) := by decide +kernel
theorem dL_law_702 : decode cL_law 702 = .ok (.ireturn, 1) := by decide +kernel
theorem dL_law_703 : decode cL_law 703 = .ok (.aload_n 1, 1) := by decide +kernel
theorem dL_law_704 : decode cL_law 704 = .ok (.aload_n 0, 1) := by decide +kernel
theorem dL_law_705 : decode cL_law 705 = .ok (.iload_n 3, 1) := by decide +kernel
theorem dL_law_706 : decode cL_law 706 = .ok (.iconst 1, 1) := by decide +kernel
theorem dL_law_707 : decode cL_law 707 = .ok (.iadd, 1) := by decide +kernel
theorem dL_law_708 : decode cL_law 708 = .ok (.iaload, 1) := by decide +kernel
theorem dL_law_709 : decode cL_law 709 = .ok (.invokevirtual 109, 3) := by decide +kernel
theorem dL_law_712 : decode cL_law 712 = .ok (.aload_n 2, 1) := by decide +kernel
theorem dL_law_713 : decode cL_law 713 = .ok (.aload_n 0, 1) := by decide +kernel
theorem dL_law_714 : decode cL_law 714 = .ok (.iload_n 3, 1) := by decide +kernel
theorem dL_law_715 : decode cL_law 715 = .ok (.iconst 1, 1) := by decide +kernel
theorem dL_law_716 : decode cL_law 716 = .ok (.iadd, 1) := by decide +kernel
theorem dL_law_717 : decode cL_law 717 = .ok (.iaload, 1) := by decide +kernel
theorem dL_law_718 : decode cL_law 718 = .ok (.invokevirtual 112, 3) := by decide +kernel
theorem dL_law_721 : decode cL_law 721 = .ok (.if_icmp .eq 5, 3) := by decide +kernel
theorem dL_law_724 : decode cL_law 724 = .ok (.iconst 0, 1) := by decide +kernel
theorem dL_law_725 : decode cL_law 725 = .ok (.ireturn, 1) := by decide +kernel
theorem dL_law_726 : decode cL_law 726 = .ok (.iinc 3 4, 3) := by decide +kernel
theorem dL_law_729 : decode cL_law 729 = .ok (.goto (-711), 3) := by decide +kernel
theorem dL_law_732 : decode cL_law 732 = .ok (.iconst 1, 1) := by decide +kernel
theorem dL_law_733 : decode cL_law 733 = .ok (.ireturn, 1) := by decide +kernel
end
section
/-! the words that a method may ask for: those of lw_tbl that a callee hears too -/
def w_T : List Cond := lw_tbl.filter goodWord
theorem w_in {i : Nat} {w : Cond} (h : lw_tbl[i]? = some w) (hg : goodWord w = true) : w ∈ w_T := List.mem_filter.mpr ⟨List.mem_of_getElem? h, hg⟩
/-- a field's link: of the class numbered ci its slot k, of type ty; f: final -/
def w_F (own : String) (idx ci k : Nat) (ty : FieldType) (f : Bool) : Prop := ∃ (q : vw_C) (ty0 : Nat → FieldType), vwCl[ci]? = some q ∧ (∀ w ∈ u_ws q.1 q.2.1 q.2.2, w ∈ w_T) ∧ (∀ k, k < q.2.2 → parseFieldDescriptor (q.2.1 k).2.2.1 = some (ty0 k)) ∧ (∀ a, a < q.2.2 → ∀ b, b < q.2.2 → a ≠ b → (q.2.1 a).2.1 ≠ (q.2.1 b).2.1) ∧ k < q.2.2 ∧ Cond.fieldLink own idx (q.2.1 k).1 (q.2.1 k).2.1 (q.2.1 k).2.2.1 ∈ w_T ∧ (q.2.1 k).2.2.2 = f ∧ ty0 k = ty
theorem in_X0 : ∀ w ∈ u_ws RX0 TX0 5, w ∈ w_T := by
  have h : ∀ k, k < 5 → ∃ i : Nat, lw_tbl[i]? = some (u_lay RX0 TX0 k) ∧ goodWord (u_lay RX0 TX0 k) = true := by
    intro k hk
    match k, hk with
    | 0, _ => exact ⟨116, by decide +kernel, by decide +kernel⟩
    | 1, _ => exact ⟨118, by decide +kernel, by decide +kernel⟩
    | 2, _ => exact ⟨120, by decide +kernel, by decide +kernel⟩
    | 3, _ => exact ⟨122, by decide +kernel, by decide +kernel⟩
    | 4, _ => exact ⟨124, by decide +kernel, by decide +kernel⟩
    | k + 5, hk => exact absurd hk (by omega)
  intro w hw
  obtain ⟨k, hk, rfl⟩ := List.mem_map.mp hw
  obtain ⟨i, h1, h2⟩ := h k (List.mem_range.mp hk)
  exact w_in h1 h2
theorem in_X1 : ∀ w ∈ u_ws RX1 TX1 10, w ∈ w_T := by
  have h : ∀ k, k < 10 → ∃ i : Nat, lw_tbl[i]? = some (u_lay RX1 TX1 k) ∧ goodWord (u_lay RX1 TX1 k) = true := by
    intro k hk
    match k, hk with
    | 0, _ => exact ⟨268, by decide +kernel, by decide +kernel⟩
    | 1, _ => exact ⟨270, by decide +kernel, by decide +kernel⟩
    | 2, _ => exact ⟨272, by decide +kernel, by decide +kernel⟩
    | 3, _ => exact ⟨274, by decide +kernel, by decide +kernel⟩
    | 4, _ => exact ⟨276, by decide +kernel, by decide +kernel⟩
    | 5, _ => exact ⟨278, by decide +kernel, by decide +kernel⟩
    | 6, _ => exact ⟨280, by decide +kernel, by decide +kernel⟩
    | 7, _ => exact ⟨282, by decide +kernel, by decide +kernel⟩
    | 8, _ => exact ⟨284, by decide +kernel, by decide +kernel⟩
    | 9, _ => exact ⟨286, by decide +kernel, by decide +kernel⟩
    | k + 10, hk => exact absurd hk (by omega)
  intro w hw
  obtain ⟨k, hk, rfl⟩ := List.mem_map.mp hw
  obtain ⟨i, h1, h2⟩ := h k (List.mem_range.mp hk)
  exact w_in h1 h2
theorem in_X2 : ∀ w ∈ u_ws RX2 TX2 3, w ∈ w_T := by
  have h : ∀ k, k < 3 → ∃ i : Nat, lw_tbl[i]? = some (u_lay RX2 TX2 k) ∧ goodWord (u_lay RX2 TX2 k) = true := by
    intro k hk
    match k, hk with
    | 0, _ => exact ⟨191, by decide +kernel, by decide +kernel⟩
    | 1, _ => exact ⟨193, by decide +kernel, by decide +kernel⟩
    | 2, _ => exact ⟨195, by decide +kernel, by decide +kernel⟩
    | k + 3, hk => exact absurd hk (by omega)
  intro w hw
  obtain ⟨k, hk, rfl⟩ := List.mem_map.mp hw
  obtain ⟨i, h1, h2⟩ := h k (List.mem_range.mp hk)
  exact w_in h1 h2
theorem in_X3 : ∀ w ∈ u_ws RX3 TX3 3, w ∈ w_T := by
  have h : ∀ k, k < 3 → ∃ i : Nat, lw_tbl[i]? = some (u_lay RX3 TX3 k) ∧ goodWord (u_lay RX3 TX3 k) = true := by
    intro k hk
    match k, hk with
    | 0, _ => exact ⟨131, by decide +kernel, by decide +kernel⟩
    | 1, _ => exact ⟨133, by decide +kernel, by decide +kernel⟩
    | 2, _ => exact ⟨135, by decide +kernel, by decide +kernel⟩
    | k + 3, hk => exact absurd hk (by omega)
  intro w hw
  obtain ⟨k, hk, rfl⟩ := List.mem_map.mp hw
  obtain ⟨i, h1, h2⟩ := h k (List.mem_range.mp hk)
  exact w_in h1 h2
theorem in_X4 : ∀ w ∈ u_ws RX4 TX4 7, w ∈ w_T := by
  have h : ∀ k, k < 7 → ∃ i : Nat, lw_tbl[i]? = some (u_lay RX4 TX4 k) ∧ goodWord (u_lay RX4 TX4 k) = true := by
    intro k hk
    match k, hk with
    | 0, _ => exact ⟨239, by decide +kernel, by decide +kernel⟩
    | 1, _ => exact ⟨241, by decide +kernel, by decide +kernel⟩
    | 2, _ => exact ⟨243, by decide +kernel, by decide +kernel⟩
    | 3, _ => exact ⟨245, by decide +kernel, by decide +kernel⟩
    | 4, _ => exact ⟨247, by decide +kernel, by decide +kernel⟩
    | 5, _ => exact ⟨249, by decide +kernel, by decide +kernel⟩
    | 6, _ => exact ⟨251, by decide +kernel, by decide +kernel⟩
    | k + 7, hk => exact absurd hk (by omega)
  intro w hw
  obtain ⟨k, hk, rfl⟩ := List.mem_map.mp hw
  obtain ⟨i, h1, h2⟩ := h k (List.mem_range.mp hk)
  exact w_in h1 h2
theorem in_X5 : ∀ w ∈ u_ws RX5 TX5 3, w ∈ w_T := by
  have h : ∀ k, k < 3 → ∃ i : Nat, lw_tbl[i]? = some (u_lay RX5 TX5 k) ∧ goodWord (u_lay RX5 TX5 k) = true := by
    intro k hk
    match k, hk with
    | 0, _ => exact ⟨208, by decide +kernel, by decide +kernel⟩
    | 1, _ => exact ⟨210, by decide +kernel, by decide +kernel⟩
    | 2, _ => exact ⟨212, by decide +kernel, by decide +kernel⟩
    | k + 3, hk => exact absurd hk (by omega)
  intro w hw
  obtain ⟨k, hk, rfl⟩ := List.mem_map.mp hw
  obtain ⟨i, h1, h2⟩ := h k (List.mem_range.mp hk)
  exact w_in h1 h2
theorem in_X6 : ∀ w ∈ u_ws RX6 TX6 5, w ∈ w_T := by
  have h : ∀ k, k < 5 → ∃ i : Nat, lw_tbl[i]? = some (u_lay RX6 TX6 k) ∧ goodWord (u_lay RX6 TX6 k) = true := by
    intro k hk
    match k, hk with
    | 0, _ => exact ⟨159, by decide +kernel, by decide +kernel⟩
    | 1, _ => exact ⟨161, by decide +kernel, by decide +kernel⟩
    | 2, _ => exact ⟨163, by decide +kernel, by decide +kernel⟩
    | 3, _ => exact ⟨165, by decide +kernel, by decide +kernel⟩
    | 4, _ => exact ⟨167, by decide +kernel, by decide +kernel⟩
    | k + 5, hk => exact absurd hk (by omega)
  intro w hw
  obtain ⟨k, hk, rfl⟩ := List.mem_map.mp hw
  obtain ⟨i, h1, h2⟩ := h k (List.mem_range.mp hk)
  exact w_in h1 h2
theorem in_X7 : ∀ w ∈ u_ws RX7 TX7 5, w ∈ w_T := by
  have h : ∀ k, k < 5 → ∃ i : Nat, lw_tbl[i]? = some (u_lay RX7 TX7 k) ∧ goodWord (u_lay RX7 TX7 k) = true := by
    intro k hk
    match k, hk with
    | 0, _ => exact ⟨75, by decide +kernel, by decide +kernel⟩
    | 1, _ => exact ⟨77, by decide +kernel, by decide +kernel⟩
    | 2, _ => exact ⟨79, by decide +kernel, by decide +kernel⟩
    | 3, _ => exact ⟨81, by decide +kernel, by decide +kernel⟩
    | 4, _ => exact ⟨83, by decide +kernel, by decide +kernel⟩
    | k + 5, hk => exact absurd hk (by omega)
  intro w hw
  obtain ⟨k, hk, rfl⟩ := List.mem_map.mp hw
  obtain ⟨i, h1, h2⟩ := h k (List.mem_range.mp hk)
  exact w_in h1 h2
theorem in_X8 : ∀ w ∈ u_ws RX8 TX8 9, w ∈ w_T := by
  have h : ∀ k, k < 9 → ∃ i : Nat, lw_tbl[i]? = some (u_lay RX8 TX8 k) ∧ goodWord (u_lay RX8 TX8 k) = true := by
    intro k hk
    match k, hk with
    | 0, _ => exact ⟨298, by decide +kernel, by decide +kernel⟩
    | 1, _ => exact ⟨300, by decide +kernel, by decide +kernel⟩
    | 2, _ => exact ⟨302, by decide +kernel, by decide +kernel⟩
    | 3, _ => exact ⟨304, by decide +kernel, by decide +kernel⟩
    | 4, _ => exact ⟨306, by decide +kernel, by decide +kernel⟩
    | 5, _ => exact ⟨308, by decide +kernel, by decide +kernel⟩
    | 6, _ => exact ⟨310, by decide +kernel, by decide +kernel⟩
    | 7, _ => exact ⟨312, by decide +kernel, by decide +kernel⟩
    | 8, _ => exact ⟨314, by decide +kernel, by decide +kernel⟩
    | k + 9, hk => exact absurd hk (by omega)
  intro w hw
  obtain ⟨k, hk, rfl⟩ := List.mem_map.mp hw
  obtain ⟨i, h1, h2⟩ := h k (List.mem_range.mp hk)
  exact w_in h1 h2
theorem in_X9 : ∀ w ∈ u_ws RX9 TX9 29, w ∈ w_T := by
  have h : ∀ k, k < 29 → ∃ i : Nat, lw_tbl[i]? = some (u_lay RX9 TX9 k) ∧ goodWord (u_lay RX9 TX9 k) = true := by
    intro k hk
    match k, hk with
    | 0, _ => exact ⟨661, by decide +kernel, by decide +kernel⟩
    | 1, _ => exact ⟨663, by decide +kernel, by decide +kernel⟩
    | 2, _ => exact ⟨665, by decide +kernel, by decide +kernel⟩
    | 3, _ => exact ⟨667, by decide +kernel, by decide +kernel⟩
    | 4, _ => exact ⟨669, by decide +kernel, by decide +kernel⟩
    | 5, _ => exact ⟨671, by decide +kernel, by decide +kernel⟩
    | 6, _ => exact ⟨673, by decide +kernel, by decide +kernel⟩
    | 7, _ => exact ⟨675, by decide +kernel, by decide +kernel⟩
    | 8, _ => exact ⟨677, by decide +kernel, by decide +kernel⟩
    | 9, _ => exact ⟨679, by decide +kernel, by decide +kernel⟩
    | 10, _ => exact ⟨681, by decide +kernel, by decide +kernel⟩
    | 11, _ => exact ⟨683, by decide +kernel, by decide +kernel⟩
    | 12, _ => exact ⟨685, by decide +kernel, by decide +kernel⟩
    | 13, _ => exact ⟨687, by decide +kernel, by decide +kernel⟩
    | 14, _ => exact ⟨689, by decide +kernel, by decide +kernel⟩
    | 15, _ => exact ⟨691, by decide +kernel, by decide +kernel⟩
    | 16, _ => exact ⟨693, by decide +kernel, by decide +kernel⟩
    | 17, _ => exact ⟨695, by decide +kernel, by decide +kernel⟩
    | 18, _ => exact ⟨697, by decide +kernel, by decide +kernel⟩
    | 19, _ => exact ⟨699, by decide +kernel, by decide +kernel⟩
    | 20, _ => exact ⟨701, by decide +kernel, by decide +kernel⟩
    | 21, _ => exact ⟨703, by decide +kernel, by decide +kernel⟩
    | 22, _ => exact ⟨705, by decide +kernel, by decide +kernel⟩
    | 23, _ => exact ⟨707, by decide +kernel, by decide +kernel⟩
    | 24, _ => exact ⟨709, by decide +kernel, by decide +kernel⟩
    | 25, _ => exact ⟨711, by decide +kernel, by decide +kernel⟩
    | 26, _ => exact ⟨713, by decide +kernel, by decide +kernel⟩
    | 27, _ => exact ⟨715, by decide +kernel, by decide +kernel⟩
    | 28, _ => exact ⟨717, by decide +kernel, by decide +kernel⟩
    | k + 29, hk => exact absurd hk (by omega)
  intro w hw
  obtain ⟨k, hk, rfl⟩ := List.mem_map.mp hw
  obtain ⟨i, h1, h2⟩ := h k (List.mem_range.mp hk)
  exact w_in h1 h2
theorem mini_L : Cond.initialized RL ∈ w_T := w_in (i := 39) (by decide +kernel) (by decide +kernel)
theorem mini_X8 : Cond.initialized RX8 ∈ w_T := w_in (i := 40) (by decide +kernel) (by decide +kernel)
theorem mini_X7 : Cond.initialized RX7 ∈ w_T := w_in (i := 41) (by decide +kernel) (by decide +kernel)
theorem mini_X3 : Cond.initialized RX3 ∈ w_T := w_in (i := 42) (by decide +kernel) (by decide +kernel)
theorem mini_X0 : Cond.initialized RX0 ∈ w_T := w_in (i := 43) (by decide +kernel) (by decide +kernel)
theorem mini_X6 : Cond.initialized RX6 ∈ w_T := w_in (i := 44) (by decide +kernel) (by decide +kernel)
theorem mini_X2 : Cond.initialized RX2 ∈ w_T := w_in (i := 45) (by decide +kernel) (by decide +kernel)
theorem mini_X5 : Cond.initialized RX5 ∈ w_T := w_in (i := 46) (by decide +kernel) (by decide +kernel)
theorem mini_X1 : Cond.initialized RX1 ∈ w_T := w_in (i := 47) (by decide +kernel) (by decide +kernel)
theorem mini_X4 : Cond.initialized RX4 ∈ w_T := w_in (i := 48) (by decide +kernel) (by decide +kernel)
theorem mini_X9 : Cond.initialized RX9 ∈ w_T := w_in (i := 49) (by decide +kernel) (by decide +kernel)
theorem mini_J10 : Cond.initialized "java/lang/System" ∈ w_T := w_in (i := 50) (by decide +kernel) (by decide +kernel)
theorem mini_J9 : Cond.initialized "java/lang/Math" ∈ w_T := w_in (i := 51) (by decide +kernel) (by decide +kernel)
theorem mcl_L_7 : Cond.classLink RL 7 RX8 ∈ w_T := w_in (i := 52) (by decide +kernel) (by decide +kernel)
theorem minst_X8 : Cond.instantiable RX8 9 ∈ w_T := w_in (i := 53) (by decide +kernel) (by decide +kernel)
theorem ml_L_9 : Cond.methodLink RL 9 yX8_init ∈ w_T := w_in (i := 54) (by decide +kernel) (by decide +kernel)
theorem mi_X8_init : Cond.instanceMethod yX8_init ∈ w_T := w_in (i := 55) (by decide +kernel) (by decide +kernel)
theorem mc_X8_init : Cond.code yX8_init cX8_init 2 none ∈ w_T := w_in (i := 56) (by decide +kernel) (by decide +kernel)
theorem ml_X8_1 : Cond.methodLink RX8 1 objectInit ∈ w_T := w_in (i := 57) (by decide +kernel) (by decide +kernel)
theorem mi_objectInit : Cond.instanceMethod objectInit ∈ w_T := w_in (i := 58) (by decide +kernel) (by decide +kernel)
theorem mc_objectInit : Cond.code objectInit ⟨#[0xb1]⟩ 1 none ∈ w_T := w_in (i := 59) (by decide +kernel) (by decide +kernel)
theorem mcl_X8_7 : Cond.classLink RX8 7 RX7 ∈ w_T := w_in (i := 60) (by decide +kernel) (by decide +kernel)
theorem minst_X7 : Cond.instantiable RX7 5 ∈ w_T := w_in (i := 61) (by decide +kernel) (by decide +kernel)
theorem mn_X8_9 : Cond.methodLinkNest RX8 9 yX7_init RX8 ∈ lw_tbl := List.mem_of_getElem? (i := 62) (by decide +kernel)
theorem mi_X7_init : Cond.instanceMethod yX7_init ∈ w_T := w_in (i := 63) (by decide +kernel) (by decide +kernel)
theorem mc_X7_init : Cond.code yX7_init cX7_init 1 none ∈ w_T := w_in (i := 64) (by decide +kernel) (by decide +kernel)
theorem ml_X7_3 : Cond.methodLink RX7 3 objectInit ∈ w_T := w_in (i := 65) (by decide +kernel) (by decide +kernel)
theorem fk_X7_9 : w_F RX7 9 7 0 (.array .int) true := ⟨(RX7, TX7, 5), tyX7, rfl, in_X7, tyX7_ok, nmX7, by decide, w_in (i := 66) (by decide +kernel) (by decide +kernel), by decide +kernel, rfl⟩
theorem fk_X8_81 : w_F RX8 81 7 0 (.array .int) true := ⟨(RX7, TX7, 5), tyX7, rfl, in_X7, tyX7_ok, nmX7, by decide, w_in (i := 67) (by decide +kernel) (by decide +kernel), by decide +kernel, rfl⟩
theorem fk_X8_78 : w_F RX8 78 7 1 .int false := ⟨(RX7, TX7, 5), tyX7, rfl, in_X7, tyX7_ok, nmX7, by decide, w_in (i := 68) (by decide +kernel) (by decide +kernel), by decide +kernel, rfl⟩
theorem fk_X7_25 : w_F RX7 25 7 1 .int false := ⟨(RX7, TX7, 5), tyX7, rfl, in_X7, tyX7_ok, nmX7, by decide, w_in (i := 69) (by decide +kernel) (by decide +kernel), by decide +kernel, rfl⟩
theorem fk_X3_34 : w_F RX3 34 7 2 .int false := ⟨(RX7, TX7, 5), tyX7, rfl, in_X7, tyX7_ok, nmX7, by decide, w_in (i := 70) (by decide +kernel) (by decide +kernel), by decide +kernel, rfl⟩
theorem fk_X7_28 : w_F RX7 28 7 2 .int false := ⟨(RX7, TX7, 5), tyX7, rfl, in_X7, tyX7_ok, nmX7, by decide, w_in (i := 71) (by decide +kernel) (by decide +kernel), by decide +kernel, rfl⟩
theorem fk_X3_42 : w_F RX3 42 7 3 .int false := ⟨(RX7, TX7, 5), tyX7, rfl, in_X7, tyX7_ok, nmX7, by decide, w_in (i := 72) (by decide +kernel) (by decide +kernel), by decide +kernel, rfl⟩
theorem fk_X7_22 : w_F RX7 22 7 3 .int false := ⟨(RX7, TX7, 5), tyX7, rfl, in_X7, tyX7_ok, nmX7, by decide, w_in (i := 73) (by decide +kernel) (by decide +kernel), by decide +kernel, rfl⟩
theorem fk_X7_15 : w_F RX7 15 7 4 .int false := ⟨(RX7, TX7, 5), tyX7, rfl, in_X7, tyX7_ok, nmX7, by decide, w_in (i := 74) (by decide +kernel) (by decide +kernel), by decide +kernel, rfl⟩
theorem mar_int : Cond.arrayClass .int ∈ w_T := w_in (i := 86) (by decide +kernel) (by decide +kernel)
theorem mcl_X8_16 : Cond.classLink RX8 16 RX3 ∈ w_T := w_in (i := 87) (by decide +kernel) (by decide +kernel)
theorem minst_X3 : Cond.instantiable RX3 3 ∈ w_T := w_in (i := 88) (by decide +kernel) (by decide +kernel)
theorem ml_X8_18 : Cond.methodLink RX8 18 yX3_init ∈ w_T := w_in (i := 89) (by decide +kernel) (by decide +kernel)
theorem mi_X3_init : Cond.instanceMethod yX3_init ∈ w_T := w_in (i := 90) (by decide +kernel) (by decide +kernel)
theorem mc_X3_init : Cond.code yX3_init cX3_init 2 none ∈ w_T := w_in (i := 91) (by decide +kernel) (by decide +kernel)
theorem ml_X3_3 : Cond.methodLink RX3 3 objectInit ∈ w_T := w_in (i := 92) (by decide +kernel) (by decide +kernel)
theorem mcl_X3_15 : Cond.classLink RX3 15 RX0 ∈ w_T := w_in (i := 93) (by decide +kernel) (by decide +kernel)
theorem minst_X0 : Cond.instantiable RX0 5 ∈ w_T := w_in (i := 94) (by decide +kernel) (by decide +kernel)
theorem ml_X3_17 : Cond.methodLink RX3 17 yX0_init ∈ w_T := w_in (i := 95) (by decide +kernel) (by decide +kernel)
theorem mi_X0_init : Cond.instanceMethod yX0_init ∈ w_T := w_in (i := 96) (by decide +kernel) (by decide +kernel)
theorem mc_X0_init : Cond.code yX0_init cX0_init 1 none ∈ w_T := w_in (i := 97) (by decide +kernel) (by decide +kernel)
theorem ml_X0_3 : Cond.methodLink RX0 3 objectInit ∈ w_T := w_in (i := 98) (by decide +kernel) (by decide +kernel)
theorem ml_X0_21 : Cond.methodLink RX0 21 yX0_reset ∈ w_T := w_in (i := 99) (by decide +kernel) (by decide +kernel)
theorem mi_X0_reset : Cond.instanceMethod yX0_reset ∈ w_T := w_in (i := 100) (by decide +kernel) (by decide +kernel)
theorem mse_X0_reset : Cond.selects RX0 yX0_reset yX0_reset ∈ w_T := w_in (i := 101) (by decide +kernel) (by decide +kernel)
theorem mc_X0_reset : Cond.code yX0_reset cX0_reset 2 none ∈ w_T := w_in (i := 102) (by decide +kernel) (by decide +kernel)
theorem fk_X0_9 : w_F RX0 9 0 0 (.array .int) true := ⟨(RX0, TX0, 5), tyX0, rfl, in_X0, tyX0_ok, nmX0, by decide, w_in (i := 103) (by decide +kernel) (by decide +kernel), by decide +kernel, rfl⟩
theorem fk_X8_99 : w_F RX8 99 0 0 (.array .int) true := ⟨(RX0, TX0, 5), tyX0, rfl, in_X0, tyX0_ok, nmX0, by decide, w_in (i := 104) (by decide +kernel) (by decide +kernel), by decide +kernel, rfl⟩
theorem fk_X3_64 : w_F RX3 64 0 0 (.array .int) true := ⟨(RX0, TX0, 5), tyX0, rfl, in_X0, tyX0_ok, nmX0, by decide, w_in (i := 105) (by decide +kernel) (by decide +kernel), by decide +kernel, rfl⟩
theorem fk_X0_15 : w_F RX0 15 0 1 (.array .int) true := ⟨(RX0, TX0, 5), tyX0, rfl, in_X0, tyX0_ok, nmX0, by decide, w_in (i := 106) (by decide +kernel) (by decide +kernel), by decide +kernel, rfl⟩
theorem fk_X8_102 : w_F RX8 102 0 1 (.array .int) true := ⟨(RX0, TX0, 5), tyX0, rfl, in_X0, tyX0_ok, nmX0, by decide, w_in (i := 107) (by decide +kernel) (by decide +kernel), by decide +kernel, rfl⟩
theorem fk_X3_68 : w_F RX3 68 0 1 (.array .int) true := ⟨(RX0, TX0, 5), tyX0, rfl, in_X0, tyX0_ok, nmX0, by decide, w_in (i := 108) (by decide +kernel) (by decide +kernel), by decide +kernel, rfl⟩
theorem fk_X0_18 : w_F RX0 18 0 2 (.array .int) true := ⟨(RX0, TX0, 5), tyX0, rfl, in_X0, tyX0_ok, nmX0, by decide, w_in (i := 109) (by decide +kernel) (by decide +kernel), by decide +kernel, rfl⟩
theorem fk_X0_24 : w_F RX0 24 0 3 .int false := ⟨(RX0, TX0, 5), tyX0, rfl, in_X0, tyX0_ok, nmX0, by decide, w_in (i := 110) (by decide +kernel) (by decide +kernel), by decide +kernel, rfl⟩
theorem fk_X3_71 : w_F RX3 71 0 3 .int false := ⟨(RX0, TX0, 5), tyX0, rfl, in_X0, tyX0_ok, nmX0, by decide, w_in (i := 111) (by decide +kernel) (by decide +kernel), by decide +kernel, rfl⟩
theorem fk_X8_117 : w_F RX8 117 0 3 .int false := ⟨(RX0, TX0, 5), tyX0, rfl, in_X0, tyX0_ok, nmX0, by decide, w_in (i := 112) (by decide +kernel) (by decide +kernel), by decide +kernel, rfl⟩
theorem fk_X8_39 : w_F RX8 39 0 4 .int false := ⟨(RX0, TX0, 5), tyX0, rfl, in_X0, tyX0_ok, nmX0, by decide, w_in (i := 113) (by decide +kernel) (by decide +kernel), by decide +kernel, rfl⟩
theorem fk_X0_28 : w_F RX0 28 0 4 .int false := ⟨(RX0, TX0, 5), tyX0, rfl, in_X0, tyX0_ok, nmX0, by decide, w_in (i := 114) (by decide +kernel) (by decide +kernel), by decide +kernel, rfl⟩
theorem fk_X3_61 : w_F RX3 61 0 4 .int false := ⟨(RX0, TX0, 5), tyX0, rfl, in_X0, tyX0_ok, nmX0, by decide, w_in (i := 115) (by decide +kernel) (by decide +kernel), by decide +kernel, rfl⟩
theorem fk_X3_18 : w_F RX3 18 3 0 (.object "FlagHoists$Book") true := ⟨(RX3, TX3, 3), tyX3, rfl, in_X3, tyX3_ok, nmX3, by decide, w_in (i := 127) (by decide +kernel) (by decide +kernel), by decide +kernel, rfl⟩
theorem fk_X8_89 : w_F RX8 89 3 0 (.object "FlagHoists$Book") true := ⟨(RX3, TX3, 3), tyX3, rfl, in_X3, tyX3_ok, nmX3, by decide, w_in (i := 128) (by decide +kernel) (by decide +kernel), by decide +kernel, rfl⟩
theorem fk_X3_9 : w_F RX3 9 3 1 (.object "FlagHoists$Text") true := ⟨(RX3, TX3, 3), tyX3, rfl, in_X3, tyX3_ok, nmX3, by decide, w_in (i := 129) (by decide +kernel) (by decide +kernel), by decide +kernel, rfl⟩
theorem fk_X3_25 : w_F RX3 25 3 2 .boolean false := ⟨(RX3, TX3, 3), tyX3, rfl, in_X3, tyX3_ok, nmX3, by decide, w_in (i := 130) (by decide +kernel) (by decide +kernel), by decide +kernel, rfl⟩
theorem mcl_X8_25 : Cond.classLink RX8 25 RX0 ∈ w_T := w_in (i := 138) (by decide +kernel) (by decide +kernel)
theorem ml_X8_27 : Cond.methodLink RX8 27 yX0_init ∈ w_T := w_in (i := 139) (by decide +kernel) (by decide +kernel)
theorem mcl_X8_32 : Cond.classLink RX8 32 RX6 ∈ w_T := w_in (i := 140) (by decide +kernel) (by decide +kernel)
theorem minst_X6 : Cond.instantiable RX6 5 ∈ w_T := w_in (i := 141) (by decide +kernel) (by decide +kernel)
theorem mn_X8_34 : Cond.methodLinkNest RX8 34 yX6_init RX8 ∈ lw_tbl := List.mem_of_getElem? (i := 142) (by decide +kernel)
theorem mi_X6_init : Cond.instanceMethod yX6_init ∈ w_T := w_in (i := 143) (by decide +kernel) (by decide +kernel)
theorem mc_X6_init : Cond.code yX6_init cX6_init 1 none ∈ w_T := w_in (i := 144) (by decide +kernel) (by decide +kernel)
theorem ml_X6_3 : Cond.methodLink RX6 3 objectInit ∈ w_T := w_in (i := 145) (by decide +kernel) (by decide +kernel)
theorem fk_X6_9 : w_F RX6 9 6 0 (.array .int) true := ⟨(RX6, TX6, 5), tyX6, rfl, in_X6, tyX6_ok, nmX6, by decide, w_in (i := 146) (by decide +kernel) (by decide +kernel), by decide +kernel, rfl⟩
theorem fk_X1_46 : w_F RX1 46 6 0 (.array .int) true := ⟨(RX6, TX6, 5), tyX6, rfl, in_X6, tyX6_ok, nmX6, by decide, w_in (i := 147) (by decide +kernel) (by decide +kernel), by decide +kernel, rfl⟩
theorem fk_X8_173 : w_F RX8 173 6 0 (.array .int) true := ⟨(RX6, TX6, 5), tyX6, rfl, in_X6, tyX6_ok, nmX6, by decide, w_in (i := 148) (by decide +kernel) (by decide +kernel), by decide +kernel, rfl⟩
theorem fk_X6_15 : w_F RX6 15 6 1 .int false := ⟨(RX6, TX6, 5), tyX6, rfl, in_X6, tyX6_ok, nmX6, by decide, w_in (i := 149) (by decide +kernel) (by decide +kernel), by decide +kernel, rfl⟩
theorem fk_X1_45 : w_F RX1 45 6 1 .int false := ⟨(RX6, TX6, 5), tyX6, rfl, in_X6, tyX6_ok, nmX6, by decide, w_in (i := 150) (by decide +kernel) (by decide +kernel), by decide +kernel, rfl⟩
theorem fk_X8_124 : w_F RX8 124 6 1 .int false := ⟨(RX6, TX6, 5), tyX6, rfl, in_X6, tyX6_ok, nmX6, by decide, w_in (i := 151) (by decide +kernel) (by decide +kernel), by decide +kernel, rfl⟩
theorem fk_X1_35 : w_F RX1 35 6 2 .int false := ⟨(RX6, TX6, 5), tyX6, rfl, in_X6, tyX6_ok, nmX6, by decide, w_in (i := 152) (by decide +kernel) (by decide +kernel), by decide +kernel, rfl⟩
theorem fk_X6_19 : w_F RX6 19 6 2 .int false := ⟨(RX6, TX6, 5), tyX6, rfl, in_X6, tyX6_ok, nmX6, by decide, w_in (i := 153) (by decide +kernel) (by decide +kernel), by decide +kernel, rfl⟩
theorem fk_X8_139 : w_F RX8 139 6 2 .int false := ⟨(RX6, TX6, 5), tyX6, rfl, in_X6, tyX6_ok, nmX6, by decide, w_in (i := 154) (by decide +kernel) (by decide +kernel), by decide +kernel, rfl⟩
theorem fk_X6_25 : w_F RX6 25 6 3 .int false := ⟨(RX6, TX6, 5), tyX6, rfl, in_X6, tyX6_ok, nmX6, by decide, w_in (i := 155) (by decide +kernel) (by decide +kernel), by decide +kernel, rfl⟩
theorem fk_X8_155 : w_F RX8 155 6 3 .int false := ⟨(RX6, TX6, 5), tyX6, rfl, in_X6, tyX6_ok, nmX6, by decide, w_in (i := 156) (by decide +kernel) (by decide +kernel), by decide +kernel, rfl⟩
theorem fk_X6_28 : w_F RX6 28 6 4 .int false := ⟨(RX6, TX6, 5), tyX6, rfl, in_X6, tyX6_ok, nmX6, by decide, w_in (i := 157) (by decide +kernel) (by decide +kernel), by decide +kernel, rfl⟩
theorem fk_X8_161 : w_F RX8 161 6 4 .int false := ⟨(RX6, TX6, 5), tyX6, rfl, in_X6, tyX6_ok, nmX6, by decide, w_in (i := 158) (by decide +kernel) (by decide +kernel), by decide +kernel, rfl⟩
theorem ml_X8_43 : Cond.methodLink RX8 43 yX6_begin ∈ w_T := w_in (i := 170) (by decide +kernel) (by decide +kernel)
theorem mi_X6_begin : Cond.instanceMethod yX6_begin ∈ w_T := w_in (i := 171) (by decide +kernel) (by decide +kernel)
theorem mse_X6_begin : Cond.selects RX6 yX6_begin yX6_begin ∈ w_T := w_in (i := 172) (by decide +kernel) (by decide +kernel)
theorem mc_X6_begin : Cond.code yX6_begin cX6_begin 2 none ∈ w_T := w_in (i := 173) (by decide +kernel) (by decide +kernel)
theorem ml_X6_22 : Cond.methodLink RX6 22 yX6_nothingSent ∈ w_T := w_in (i := 174) (by decide +kernel) (by decide +kernel)
theorem mi_X6_nothingSent : Cond.instanceMethod yX6_nothingSent ∈ w_T := w_in (i := 175) (by decide +kernel) (by decide +kernel)
theorem mse_X6_nothingSent : Cond.selects RX6 yX6_nothingSent yX6_nothingSent ∈ w_T := w_in (i := 176) (by decide +kernel) (by decide +kernel)
theorem mc_X6_nothingSent : Cond.code yX6_nothingSent cX6_nothingSent 1 none ∈ w_T := w_in (i := 177) (by decide +kernel) (by decide +kernel)
theorem mcl_X8_47 : Cond.classLink RX8 47 RX2 ∈ w_T := w_in (i := 178) (by decide +kernel) (by decide +kernel)
theorem minst_X2 : Cond.instantiable RX2 3 ∈ w_T := w_in (i := 179) (by decide +kernel) (by decide +kernel)
theorem ml_X8_49 : Cond.methodLink RX8 49 yX2_init ∈ w_T := w_in (i := 180) (by decide +kernel) (by decide +kernel)
theorem mi_X2_init : Cond.instanceMethod yX2_init ∈ w_T := w_in (i := 181) (by decide +kernel) (by decide +kernel)
theorem mc_X2_init : Cond.code yX2_init cX2_init 2 none ∈ w_T := w_in (i := 182) (by decide +kernel) (by decide +kernel)
theorem ml_X2_3 : Cond.methodLink RX2 3 objectInit ∈ w_T := w_in (i := 183) (by decide +kernel) (by decide +kernel)
theorem mcl_X2_9 : Cond.classLink RX2 9 RX6 ∈ w_T := w_in (i := 184) (by decide +kernel) (by decide +kernel)
theorem mn_X2_17 : Cond.methodLinkNest RX2 17 yX6_init RX8 ∈ lw_tbl := List.mem_of_getElem? (i := 186) (by decide +kernel)
theorem fk_X2_11 : w_F RX2 11 2 0 (.array (.object "FlagHoists$Signal")) true := ⟨(RX2, TX2, 3), tyX2, rfl, in_X2, tyX2_ok, nmX2, by decide, w_in (i := 187) (by decide +kernel) (by decide +kernel), by decide +kernel, rfl⟩
theorem fk_X2_18 : w_F RX2 18 2 1 .int false := ⟨(RX2, TX2, 3), tyX2, rfl, in_X2, tyX2_ok, nmX2, by decide, w_in (i := 188) (by decide +kernel) (by decide +kernel), by decide +kernel, rfl⟩
theorem fk_X2_22 : w_F RX2 22 2 2 .int false := ⟨(RX2, TX2, 3), tyX2, rfl, in_X2, tyX2_ok, nmX2, by decide, w_in (i := 189) (by decide +kernel) (by decide +kernel), by decide +kernel, rfl⟩
theorem fk_X8_95 : w_F RX8 95 2 2 .int false := ⟨(RX2, TX2, 3), tyX2, rfl, in_X2, tyX2_ok, nmX2, by decide, w_in (i := 190) (by decide +kernel) (by decide +kernel), by decide +kernel, rfl⟩
theorem mcl_X8_62 : Cond.classLink RX8 62 RX5 ∈ w_T := w_in (i := 198) (by decide +kernel) (by decide +kernel)
theorem minst_X5 : Cond.instantiable RX5 3 ∈ w_T := w_in (i := 199) (by decide +kernel) (by decide +kernel)
theorem mn_X8_64 : Cond.methodLinkNest RX8 64 yX5_init RX8 ∈ lw_tbl := List.mem_of_getElem? (i := 200) (by decide +kernel)
theorem mi_X5_init : Cond.instanceMethod yX5_init ∈ w_T := w_in (i := 201) (by decide +kernel) (by decide +kernel)
theorem mc_X5_init : Cond.code yX5_init cX5_init 1 none ∈ w_T := w_in (i := 202) (by decide +kernel) (by decide +kernel)
theorem ml_X5_3 : Cond.methodLink RX5 3 objectInit ∈ w_T := w_in (i := 203) (by decide +kernel) (by decide +kernel)
theorem fk_X5_9 : w_F RX5 9 5 0 (.array .int) true := ⟨(RX5, TX5, 3), tyX5, rfl, in_X5, tyX5_ok, nmX5, by decide, w_in (i := 204) (by decide +kernel) (by decide +kernel), by decide +kernel, rfl⟩
theorem fk_X5_15 : w_F RX5 15 5 1 (.array .int) true := ⟨(RX5, TX5, 3), tyX5, rfl, in_X5, tyX5_ok, nmX5, by decide, w_in (i := 205) (by decide +kernel) (by decide +kernel), by decide +kernel, rfl⟩
theorem fk_X5_18 : w_F RX5 18 5 2 .int false := ⟨(RX5, TX5, 3), tyX5, rfl, in_X5, tyX5_ok, nmX5, by decide, w_in (i := 206) (by decide +kernel) (by decide +kernel), by decide +kernel, rfl⟩
theorem fk_X8_98 : w_F RX8 98 5 2 .int false := ⟨(RX5, TX5, 3), tyX5, rfl, in_X5, tyX5_ok, nmX5, by decide, w_in (i := 207) (by decide +kernel) (by decide +kernel), by decide +kernel, rfl⟩
theorem mar_boolean : Cond.arrayClass .boolean ∈ w_T := w_in (i := 215) (by decide +kernel) (by decide +kernel)
theorem mcl_X8_69 : Cond.classLink RX8 69 RX1 ∈ w_T := w_in (i := 216) (by decide +kernel) (by decide +kernel)
theorem minst_X1 : Cond.instantiable RX1 10 ∈ w_T := w_in (i := 217) (by decide +kernel) (by decide +kernel)
theorem ml_X8_71 : Cond.methodLink RX8 71 yX1_init ∈ w_T := w_in (i := 218) (by decide +kernel) (by decide +kernel)
theorem mi_X1_init : Cond.instanceMethod yX1_init ∈ w_T := w_in (i := 219) (by decide +kernel) (by decide +kernel)
theorem mc_X1_init : Cond.code yX1_init cX1_init 2 none ∈ w_T := w_in (i := 220) (by decide +kernel) (by decide +kernel)
theorem ml_X1_3 : Cond.methodLink RX1 3 objectInit ∈ w_T := w_in (i := 221) (by decide +kernel) (by decide +kernel)
theorem mcl_X1_15 : Cond.classLink RX1 15 RX4 ∈ w_T := w_in (i := 222) (by decide +kernel) (by decide +kernel)
theorem minst_X4 : Cond.instantiable RX4 7 ∈ w_T := w_in (i := 223) (by decide +kernel) (by decide +kernel)
theorem mn_X1_17 : Cond.methodLinkNest RX1 17 yX4_init RX8 ∈ lw_tbl := List.mem_of_getElem? (i := 224) (by decide +kernel)
theorem mi_X4_init : Cond.instanceMethod yX4_init ∈ w_T := w_in (i := 225) (by decide +kernel) (by decide +kernel)
theorem mc_X4_init : Cond.code yX4_init cX4_init 1 none ∈ w_T := w_in (i := 226) (by decide +kernel) (by decide +kernel)
theorem ml_X4_3 : Cond.methodLink RX4 3 objectInit ∈ w_T := w_in (i := 227) (by decide +kernel) (by decide +kernel)
theorem fk_X4_9 : w_F RX4 9 4 0 (.array .int) true := ⟨(RX4, TX4, 7), tyX4, rfl, in_X4, tyX4_ok, nmX4, by decide, w_in (i := 228) (by decide +kernel) (by decide +kernel), by decide +kernel, rfl⟩
theorem fk_X8_193 : w_F RX8 193 4 0 (.array .int) true := ⟨(RX4, TX4, 7), tyX4, rfl, in_X4, tyX4_ok, nmX4, by decide, w_in (i := 229) (by decide +kernel) (by decide +kernel), by decide +kernel, rfl⟩
theorem fk_X4_18 : w_F RX4 18 4 1 .int false := ⟨(RX4, TX4, 7), tyX4, rfl, in_X4, tyX4_ok, nmX4, by decide, w_in (i := 230) (by decide +kernel) (by decide +kernel), by decide +kernel, rfl⟩
theorem fk_X1_74 : w_F RX1 74 4 1 .int false := ⟨(RX4, TX4, 7), tyX4, rfl, in_X4, tyX4_ok, nmX4, by decide, w_in (i := 231) (by decide +kernel) (by decide +kernel), by decide +kernel, rfl⟩
theorem fk_X8_187 : w_F RX8 187 4 1 .int false := ⟨(RX4, TX4, 7), tyX4, rfl, in_X4, tyX4_ok, nmX4, by decide, w_in (i := 232) (by decide +kernel) (by decide +kernel), by decide +kernel, rfl⟩
theorem fk_X4_22 : w_F RX4 22 4 2 .int false := ⟨(RX4, TX4, 7), tyX4, rfl, in_X4, tyX4_ok, nmX4, by decide, w_in (i := 233) (by decide +kernel) (by decide +kernel), by decide +kernel, rfl⟩
theorem fk_X8_190 : w_F RX8 190 4 2 .int false := ⟨(RX4, TX4, 7), tyX4, rfl, in_X4, tyX4_ok, nmX4, by decide, w_in (i := 234) (by decide +kernel) (by decide +kernel), by decide +kernel, rfl⟩
theorem fk_X4_15 : w_F RX4 15 4 3 (.array .int) true := ⟨(RX4, TX4, 7), tyX4, rfl, in_X4, tyX4_ok, nmX4, by decide, w_in (i := 235) (by decide +kernel) (by decide +kernel), by decide +kernel, rfl⟩
theorem fk_X4_25 : w_F RX4 25 4 4 .int false := ⟨(RX4, TX4, 7), tyX4, rfl, in_X4, tyX4_ok, nmX4, by decide, w_in (i := 236) (by decide +kernel) (by decide +kernel), by decide +kernel, rfl⟩
theorem fk_X4_28 : w_F RX4 28 4 5 .int false := ⟨(RX4, TX4, 7), tyX4, rfl, in_X4, tyX4_ok, nmX4, by decide, w_in (i := 237) (by decide +kernel) (by decide +kernel), by decide +kernel, rfl⟩
theorem fk_X4_37 : w_F RX4 37 4 6 .int false := ⟨(RX4, TX4, 7), tyX4, rfl, in_X4, tyX4_ok, nmX4, by decide, w_in (i := 238) (by decide +kernel) (by decide +kernel), by decide +kernel, rfl⟩
theorem fk_X1_49 : w_F RX1 49 1 0 .boolean false := ⟨(RX1, TX1, 10), tyX1, rfl, in_X1, tyX1_ok, nmX1, by decide, w_in (i := 254) (by decide +kernel) (by decide +kernel), by decide +kernel, rfl⟩
theorem fk_X8_151 : w_F RX8 151 1 0 .boolean false := ⟨(RX1, TX1, 10), tyX1, rfl, in_X1, tyX1_ok, nmX1, by decide, w_in (i := 255) (by decide +kernel) (by decide +kernel), by decide +kernel, rfl⟩
theorem fk_X1_57 : w_F RX1 57 1 1 .int false := ⟨(RX1, TX1, 10), tyX1, rfl, in_X1, tyX1_ok, nmX1, by decide, w_in (i := 256) (by decide +kernel) (by decide +kernel), by decide +kernel, rfl⟩
theorem fk_X8_158 : w_F RX8 158 1 1 .int false := ⟨(RX1, TX1, 10), tyX1, rfl, in_X1, tyX1_ok, nmX1, by decide, w_in (i := 257) (by decide +kernel) (by decide +kernel), by decide +kernel, rfl⟩
theorem fk_X1_9 : w_F RX1 9 1 2 (.array .int) true := ⟨(RX1, TX1, 10), tyX1, rfl, in_X1, tyX1_ok, nmX1, by decide, w_in (i := 258) (by decide +kernel) (by decide +kernel), by decide +kernel, rfl⟩
theorem fk_X8_180 : w_F RX8 180 1 2 (.array .int) true := ⟨(RX1, TX1, 10), tyX1, rfl, in_X1, tyX1_ok, nmX1, by decide, w_in (i := 259) (by decide +kernel) (by decide +kernel), by decide +kernel, rfl⟩
theorem fk_X1_18 : w_F RX1 18 1 3 (.object "FlagHoists$Rope") true := ⟨(RX1, TX1, 10), tyX1, rfl, in_X1, tyX1_ok, nmX1, by decide, w_in (i := 260) (by decide +kernel) (by decide +kernel), by decide +kernel, rfl⟩
theorem fk_X8_183 : w_F RX8 183 1 3 (.object "FlagHoists$Rope") true := ⟨(RX1, TX1, 10), tyX1, rfl, in_X1, tyX1_ok, nmX1, by decide, w_in (i := 261) (by decide +kernel) (by decide +kernel), by decide +kernel, rfl⟩
theorem fk_X1_22 : w_F RX1 22 1 4 (.array .int) true := ⟨(RX1, TX1, 10), tyX1, rfl, in_X1, tyX1_ok, nmX1, by decide, w_in (i := 262) (by decide +kernel) (by decide +kernel), by decide +kernel, rfl⟩
theorem fk_X1_42 : w_F RX1 42 1 5 .int false := ⟨(RX1, TX1, 10), tyX1, rfl, in_X1, tyX1_ok, nmX1, by decide, w_in (i := 263) (by decide +kernel) (by decide +kernel), by decide +kernel, rfl⟩
theorem fk_X1_41 : w_F RX1 41 1 6 .int false := ⟨(RX1, TX1, 10), tyX1, rfl, in_X1, tyX1_ok, nmX1, by decide, w_in (i := 264) (by decide +kernel) (by decide +kernel), by decide +kernel, rfl⟩
theorem fk_X1_31 : w_F RX1 31 1 7 (.object "FlagHoists$Book") true := ⟨(RX1, TX1, 10), tyX1, rfl, in_X1, tyX1_ok, nmX1, by decide, w_in (i := 265) (by decide +kernel) (by decide +kernel), by decide +kernel, rfl⟩
theorem fk_X1_25 : w_F RX1 25 1 8 (.array .int) true := ⟨(RX1, TX1, 10), tyX1, rfl, in_X1, tyX1_ok, nmX1, by decide, w_in (i := 266) (by decide +kernel) (by decide +kernel), by decide +kernel, rfl⟩
theorem fk_X1_28 : w_F RX1 28 1 9 (.array .int) true := ⟨(RX1, TX1, 10), tyX1, rfl, in_X1, tyX1_ok, nmX1, by decide, w_in (i := 267) (by decide +kernel) (by decide +kernel), by decide +kernel, rfl⟩
theorem fk_X8_10 : w_F RX8 10 8 0 (.object "FlagHoists$Text") true := ⟨(RX8, TX8, 9), tyX8, rfl, in_X8, tyX8_ok, nmX8, by decide, w_in (i := 289) (by decide +kernel) (by decide +kernel), by decide +kernel, rfl⟩
theorem fk_X8_21 : w_F RX8 21 8 1 (.object "FlagHoists$Reader") true := ⟨(RX8, TX8, 9), tyX8, rfl, in_X8, tyX8_ok, nmX8, by decide, w_in (i := 290) (by decide +kernel) (by decide +kernel), by decide +kernel, rfl⟩
theorem fk_X8_28 : w_F RX8 28 8 2 (.object "FlagHoists$Book") true := ⟨(RX8, TX8, 9), tyX8, rfl, in_X8, tyX8_ok, nmX8, by decide, w_in (i := 291) (by decide +kernel) (by decide +kernel), by decide +kernel, rfl⟩
theorem fk_X8_35 : w_F RX8 35 8 3 (.object "FlagHoists$Signal") true := ⟨(RX8, TX8, 9), tyX8, rfl, in_X8, tyX8_ok, nmX8, by decide, w_in (i := 292) (by decide +kernel) (by decide +kernel), by decide +kernel, rfl⟩
theorem fk_X8_50 : w_F RX8 50 8 4 (.object "FlagHoists$History") true := ⟨(RX8, TX8, 9), tyX8, rfl, in_X8, tyX8_ok, nmX8, by decide, w_in (i := 293) (by decide +kernel) (by decide +kernel), by decide +kernel, rfl⟩
theorem fk_X8_54 : w_F RX8 54 8 5 (.array (.object "FlagHoists$Signal")) true := ⟨(RX8, TX8, 9), tyX8, rfl, in_X8, tyX8_ok, nmX8, by decide, w_in (i := 294) (by decide +kernel) (by decide +kernel), by decide +kernel, rfl⟩
theorem fk_X8_58 : w_F RX8 58 8 6 (.array .boolean) true := ⟨(RX8, TX8, 9), tyX8, rfl, in_X8, tyX8_ok, nmX8, by decide, w_in (i := 295) (by decide +kernel) (by decide +kernel), by decide +kernel, rfl⟩
theorem fk_X8_65 : w_F RX8 65 8 7 (.object "FlagHoists$Sightings") true := ⟨(RX8, TX8, 9), tyX8, rfl, in_X8, tyX8_ok, nmX8, by decide, w_in (i := 296) (by decide +kernel) (by decide +kernel), by decide +kernel, rfl⟩
theorem fk_X8_74 : w_F RX8 74 8 8 (.object "FlagHoists$Cut") true := ⟨(RX8, TX8, 9), tyX8, rfl, in_X8, tyX8_ok, nmX8, by decide, w_in (i := 297) (by decide +kernel) (by decide +kernel), by decide +kernel, rfl⟩
theorem ml_L_13 : Cond.methodLink RL 13 yX8_type ∈ w_T := w_in (i := 317) (by decide +kernel) (by decide +kernel)
theorem mi_X8_type : Cond.instanceMethod yX8_type ∈ w_T := w_in (i := 318) (by decide +kernel) (by decide +kernel)
theorem mse_X8_type : Cond.selects RX8 yX8_type yX8_type ∈ w_T := w_in (i := 319) (by decide +kernel) (by decide +kernel)
theorem mc_X8_type : Cond.code yX8_type cX8_type 2 (some .int) ∈ w_T := w_in (i := 320) (by decide +kernel) (by decide +kernel)
theorem ml_L_18 : Cond.methodLink RL 18 yX8_clear ∈ w_T := w_in (i := 321) (by decide +kernel) (by decide +kernel)
theorem mi_X8_clear : Cond.instanceMethod yX8_clear ∈ w_T := w_in (i := 322) (by decide +kernel) (by decide +kernel)
theorem mse_X8_clear : Cond.selects RX8 yX8_clear yX8_clear ∈ w_T := w_in (i := 323) (by decide +kernel) (by decide +kernel)
theorem mc_X8_clear : Cond.code yX8_clear cX8_clear 2 (some .int) ∈ w_T := w_in (i := 324) (by decide +kernel) (by decide +kernel)
theorem ml_L_23 : Cond.methodLink RL 23 yX8_book ∈ w_T := w_in (i := 325) (by decide +kernel) (by decide +kernel)
theorem mi_X8_book : Cond.instanceMethod yX8_book ∈ w_T := w_in (i := 326) (by decide +kernel) (by decide +kernel)
theorem mse_X8_book : Cond.selects RX8 yX8_book yX8_book ∈ w_T := w_in (i := 327) (by decide +kernel) (by decide +kernel)
theorem mc_X8_book : Cond.code yX8_book cX8_book 3 (some .int) ∈ w_T := w_in (i := 328) (by decide +kernel) (by decide +kernel)
theorem ml_X8_85 : Cond.methodLink RX8 85 yX3_readAll ∈ w_T := w_in (i := 329) (by decide +kernel) (by decide +kernel)
theorem mi_X3_readAll : Cond.instanceMethod yX3_readAll ∈ w_T := w_in (i := 330) (by decide +kernel) (by decide +kernel)
theorem mse_X3_readAll : Cond.selects RX3 yX3_readAll yX3_readAll ∈ w_T := w_in (i := 331) (by decide +kernel) (by decide +kernel)
theorem mc_X3_readAll : Cond.code yX3_readAll cX3_readAll 2 (some .int) ∈ w_T := w_in (i := 332) (by decide +kernel) (by decide +kernel)
theorem ml_X3_22 : Cond.methodLink RX3 22 yX0_reset ∈ w_T := w_in (i := 333) (by decide +kernel) (by decide +kernel)
theorem ml_X3_29 : Cond.methodLink RX3 29 yX7_rewind ∈ w_T := w_in (i := 334) (by decide +kernel) (by decide +kernel)
theorem mi_X7_rewind : Cond.instanceMethod yX7_rewind ∈ w_T := w_in (i := 335) (by decide +kernel) (by decide +kernel)
theorem mse_X7_rewind : Cond.selects RX7 yX7_rewind yX7_rewind ∈ w_T := w_in (i := 336) (by decide +kernel) (by decide +kernel)
theorem mc_X7_rewind : Cond.code yX7_rewind cX7_rewind 1 none ∈ w_T := w_in (i := 337) (by decide +kernel) (by decide +kernel)
theorem ml_X7_19 : Cond.methodLink RX7 19 yX7_step ∈ w_T := w_in (i := 338) (by decide +kernel) (by decide +kernel)
theorem mi_X7_step : Cond.instanceMethod yX7_step ∈ w_T := w_in (i := 339) (by decide +kernel) (by decide +kernel)
theorem mse_X7_step : Cond.selects RX7 yX7_step yX7_step ∈ w_T := w_in (i := 340) (by decide +kernel) (by decide +kernel)
theorem mc_X7_step : Cond.code yX7_step cX7_step 1 none ∈ w_T := w_in (i := 341) (by decide +kernel) (by decide +kernel)
theorem ml_X7_31 : Cond.methodLink RX7 31 yX7_isDigit ∈ w_T := w_in (i := 342) (by decide +kernel) (by decide +kernel)
theorem ms_X7_isDigit : Cond.static yX7_isDigit ∈ w_T := w_in (i := 343) (by decide +kernel) (by decide +kernel)
theorem mc_X7_isDigit : Cond.code yX7_isDigit cX7_isDigit 1 (some .boolean) ∈ w_T := w_in (i := 344) (by decide +kernel) (by decide +kernel)
theorem ml_X3_38 : Cond.methodLink RX3 38 yX3_readItem ∈ w_T := w_in (i := 345) (by decide +kernel) (by decide +kernel)
theorem mi_X3_readItem : Cond.instanceMethod yX3_readItem ∈ w_T := w_in (i := 347) (by decide +kernel) (by decide +kernel)
theorem mc_X3_readItem : Cond.code yX3_readItem cX3_readItem 2 (some .boolean) ∈ w_T := w_in (i := 348) (by decide +kernel) (by decide +kernel)
theorem ml_X3_45 : Cond.methodLink RX3 45 yX3_readPlaces ∈ w_T := w_in (i := 349) (by decide +kernel) (by decide +kernel)
theorem mi_X3_readPlaces : Cond.instanceMethod yX3_readPlaces ∈ w_T := w_in (i := 351) (by decide +kernel) (by decide +kernel)
theorem mc_X3_readPlaces : Cond.code yX3_readPlaces cX3_readPlaces 2 (some .boolean) ∈ w_T := w_in (i := 352) (by decide +kernel) (by decide +kernel)
theorem ml_X3_58 : Cond.methodLink RX3 58 yX7_step ∈ w_T := w_in (i := 353) (by decide +kernel) (by decide +kernel)
theorem ml_X3_54 : Cond.methodLink RX3 54 yX3_take ∈ w_T := w_in (i := 354) (by decide +kernel) (by decide +kernel)
theorem mi_X3_take : Cond.instanceMethod yX3_take ∈ w_T := w_in (i := 356) (by decide +kernel) (by decide +kernel)
theorem mc_X3_take : Cond.code yX3_take cX3_take 5 (some .int) ∈ w_T := w_in (i := 357) (by decide +kernel) (by decide +kernel)
theorem ml_X3_48 : Cond.methodLink RX3 48 yX3_readFlag ∈ w_T := w_in (i := 358) (by decide +kernel) (by decide +kernel)
theorem mi_X3_readFlag : Cond.instanceMethod yX3_readFlag ∈ w_T := w_in (i := 360) (by decide +kernel) (by decide +kernel)
theorem mc_X3_readFlag : Cond.code yX3_readFlag cX3_readFlag 4 (some .boolean) ∈ w_T := w_in (i := 361) (by decide +kernel) (by decide +kernel)
theorem ml_X3_51 : Cond.methodLink RX3 51 yX3_readCode ∈ w_T := w_in (i := 362) (by decide +kernel) (by decide +kernel)
theorem mi_X3_readCode : Cond.instanceMethod yX3_readCode ∈ w_T := w_in (i := 364) (by decide +kernel) (by decide +kernel)
theorem mc_X3_readCode : Cond.code yX3_readCode cX3_readCode 5 (some .boolean) ∈ w_T := w_in (i := 365) (by decide +kernel) (by decide +kernel)
theorem ml_X3_74 : Cond.methodLink RX3 74 yX0_packed ∈ w_T := w_in (i := 366) (by decide +kernel) (by decide +kernel)
theorem ms_X0_packed : Cond.static yX0_packed ∈ w_T := w_in (i := 367) (by decide +kernel) (by decide +kernel)
theorem mc_X0_packed : Cond.code yX0_packed cX0_packed 2 (some .int) ∈ w_T := w_in (i := 368) (by decide +kernel) (by decide +kernel)
theorem ml_X0_37 : Cond.methodLink RX0 37 yX0_shiftOf ∈ w_T := w_in (i := 369) (by decide +kernel) (by decide +kernel)
theorem ms_X0_shiftOf : Cond.static yX0_shiftOf ∈ w_T := w_in (i := 370) (by decide +kernel) (by decide +kernel)
theorem mc_X0_shiftOf : Cond.code yX0_shiftOf cX0_shiftOf 1 (some .int) ∈ w_T := w_in (i := 371) (by decide +kernel) (by decide +kernel)
theorem ml_X3_78 : Cond.methodLink RX3 78 yX0_hasCode ∈ w_T := w_in (i := 372) (by decide +kernel) (by decide +kernel)
theorem mi_X0_hasCode : Cond.instanceMethod yX0_hasCode ∈ w_T := w_in (i := 373) (by decide +kernel) (by decide +kernel)
theorem mse_X0_hasCode : Cond.selects RX0 yX0_hasCode yX0_hasCode ∈ w_T := w_in (i := 374) (by decide +kernel) (by decide +kernel)
theorem mc_X0_hasCode : Cond.code yX0_hasCode cX0_hasCode 3 (some .boolean) ∈ w_T := w_in (i := 375) (by decide +kernel) (by decide +kernel)
theorem ml_X3_82 : Cond.methodLink RX3 82 yX0_add ∈ w_T := w_in (i := 376) (by decide +kernel) (by decide +kernel)
theorem mi_X0_add : Cond.instanceMethod yX0_add ∈ w_T := w_in (i := 377) (by decide +kernel) (by decide +kernel)
theorem mse_X0_add : Cond.selects RX0 yX0_add yX0_add ∈ w_T := w_in (i := 378) (by decide +kernel) (by decide +kernel)
theorem mc_X0_add : Cond.code yX0_add cX0_add 2 none ∈ w_T := w_in (i := 379) (by decide +kernel) (by decide +kernel)
theorem ml_X8_92 : Cond.methodLink RX8 92 yX0_copyFrom ∈ w_T := w_in (i := 380) (by decide +kernel) (by decide +kernel)
theorem mi_X0_copyFrom : Cond.instanceMethod yX0_copyFrom ∈ w_T := w_in (i := 381) (by decide +kernel) (by decide +kernel)
theorem mse_X0_copyFrom : Cond.selects RX0 yX0_copyFrom yX0_copyFrom ∈ w_T := w_in (i := 382) (by decide +kernel) (by decide +kernel)
theorem mc_X0_copyFrom : Cond.code yX0_copyFrom cX0_copyFrom 2 none ∈ w_T := w_in (i := 383) (by decide +kernel) (by decide +kernel)
theorem ml_X0_31 : Cond.methodLink RX0 31 arraycopyName ∈ w_T := w_in (i := 384) (by decide +kernel) (by decide +kernel)
theorem ms_arraycopy : Cond.static arraycopyName ∈ w_T := w_in (i := 385) (by decide +kernel) (by decide +kernel)
theorem mnat_arraycopy : Cond.native arraycopyName ∈ w_T := w_in (i := 386) (by decide +kernel) (by decide +kernel)
theorem ml_L_27 : Cond.methodLink RL 27 yX8_flag ∈ w_T := w_in (i := 387) (by decide +kernel) (by decide +kernel)
theorem mi_X8_flag : Cond.instanceMethod yX8_flag ∈ w_T := w_in (i := 388) (by decide +kernel) (by decide +kernel)
theorem mse_X8_flag : Cond.selects RX8 yX8_flag yX8_flag ∈ w_T := w_in (i := 389) (by decide +kernel) (by decide +kernel)
theorem mc_X8_flag : Cond.code yX8_flag cX8_flag 3 (some .int) ∈ w_T := w_in (i := 390) (by decide +kernel) (by decide +kernel)
theorem ml_L_32 : Cond.methodLink RL 32 yX8_code ∈ w_T := w_in (i := 391) (by decide +kernel) (by decide +kernel)
theorem mi_X8_code : Cond.instanceMethod yX8_code ∈ w_T := w_in (i := 392) (by decide +kernel) (by decide +kernel)
theorem mse_X8_code : Cond.selects RX8 yX8_code yX8_code ∈ w_T := w_in (i := 393) (by decide +kernel) (by decide +kernel)
theorem mc_X8_code : Cond.code yX8_code cX8_code 3 (some .int) ∈ w_T := w_in (i := 394) (by decide +kernel) (by decide +kernel)
theorem ml_X8_105 : Cond.methodLink RX8 105 yX0_has ∈ w_T := w_in (i := 395) (by decide +kernel) (by decide +kernel)
theorem mi_X0_has : Cond.instanceMethod yX0_has ∈ w_T := w_in (i := 396) (by decide +kernel) (by decide +kernel)
theorem mse_X0_has : Cond.selects RX0 yX0_has yX0_has ∈ w_T := w_in (i := 397) (by decide +kernel) (by decide +kernel)
theorem mc_X0_has : Cond.code yX0_has cX0_has 2 (some .boolean) ∈ w_T := w_in (i := 398) (by decide +kernel) (by decide +kernel)
theorem ml_X8_109 : Cond.methodLink RX8 109 yX0_lengthOf ∈ w_T := w_in (i := 399) (by decide +kernel) (by decide +kernel)
theorem mi_X0_lengthOf : Cond.instanceMethod yX0_lengthOf ∈ w_T := w_in (i := 400) (by decide +kernel) (by decide +kernel)
theorem mse_X0_lengthOf : Cond.selects RX0 yX0_lengthOf yX0_lengthOf ∈ w_T := w_in (i := 401) (by decide +kernel) (by decide +kernel)
theorem mc_X0_lengthOf : Cond.code yX0_lengthOf cX0_lengthOf 3 (some .int) ∈ w_T := w_in (i := 402) (by decide +kernel) (by decide +kernel)
theorem ml_X0_45 : Cond.methodLink RX0 45 yX0_letterOf ∈ w_T := w_in (i := 403) (by decide +kernel) (by decide +kernel)
theorem mi_X0_letterOf : Cond.instanceMethod yX0_letterOf ∈ w_T := w_in (i := 404) (by decide +kernel) (by decide +kernel)
theorem mse_X0_letterOf : Cond.selects RX0 yX0_letterOf yX0_letterOf ∈ w_T := w_in (i := 405) (by decide +kernel) (by decide +kernel)
theorem mc_X0_letterOf : Cond.code yX0_letterOf cX0_letterOf 4 (some .int) ∈ w_T := w_in (i := 406) (by decide +kernel) (by decide +kernel)
theorem ml_X0_41 : Cond.methodLink RX0 41 yX0_has ∈ w_T := w_in (i := 407) (by decide +kernel) (by decide +kernel)
theorem ml_X8_113 : Cond.methodLink RX8 113 yX0_letterOf ∈ w_T := w_in (i := 408) (by decide +kernel) (by decide +kernel)
theorem ml_L_36 : Cond.methodLink RL 36 yX8_sorted ∈ w_T := w_in (i := 409) (by decide +kernel) (by decide +kernel)
theorem mi_X8_sorted : Cond.instanceMethod yX8_sorted ∈ w_T := w_in (i := 410) (by decide +kernel) (by decide +kernel)
theorem mse_X8_sorted : Cond.selects RX8 yX8_sorted yX8_sorted ∈ w_T := w_in (i := 411) (by decide +kernel) (by decide +kernel)
theorem mc_X8_sorted : Cond.code yX8_sorted cX8_sorted 3 (some .int) ∈ w_T := w_in (i := 412) (by decide +kernel) (by decide +kernel)
theorem ml_X8_118 : Cond.methodLink RX8 118 yX0_rankOf ∈ w_T := w_in (i := 413) (by decide +kernel) (by decide +kernel)
theorem mi_X0_rankOf : Cond.instanceMethod yX0_rankOf ∈ w_T := w_in (i := 414) (by decide +kernel) (by decide +kernel)
theorem mse_X0_rankOf : Cond.selects RX0 yX0_rankOf yX0_rankOf ∈ w_T := w_in (i := 415) (by decide +kernel) (by decide +kernel)
theorem mc_X0_rankOf : Cond.code yX0_rankOf cX0_rankOf 4 (some .int) ∈ w_T := w_in (i := 416) (by decide +kernel) (by decide +kernel)
theorem ml_L_40 : Cond.methodLink RL 40 yX8_first ∈ w_T := w_in (i := 417) (by decide +kernel) (by decide +kernel)
theorem mi_X8_first : Cond.instanceMethod yX8_first ∈ w_T := w_in (i := 418) (by decide +kernel) (by decide +kernel)
theorem mse_X8_first : Cond.selects RX8 yX8_first yX8_first ∈ w_T := w_in (i := 419) (by decide +kernel) (by decide +kernel)
theorem mc_X8_first : Cond.code yX8_first cX8_first 2 (some .int) ∈ w_T := w_in (i := 420) (by decide +kernel) (by decide +kernel)
theorem ml_X8_121 : Cond.methodLink RX8 121 yX0_firstFrom ∈ w_T := w_in (i := 421) (by decide +kernel) (by decide +kernel)
theorem mi_X0_firstFrom : Cond.instanceMethod yX0_firstFrom ∈ w_T := w_in (i := 422) (by decide +kernel) (by decide +kernel)
theorem mse_X0_firstFrom : Cond.selects RX0 yX0_firstFrom yX0_firstFrom ∈ w_T := w_in (i := 423) (by decide +kernel) (by decide +kernel)
theorem mc_X0_firstFrom : Cond.code yX0_firstFrom cX0_firstFrom 5 (some .int) ∈ w_T := w_in (i := 424) (by decide +kernel) (by decide +kernel)
theorem ml_L_44 : Cond.methodLink RL 44 yX8_puts ∈ w_T := w_in (i := 425) (by decide +kernel) (by decide +kernel)
theorem mi_X8_puts : Cond.instanceMethod yX8_puts ∈ w_T := w_in (i := 426) (by decide +kernel) (by decide +kernel)
theorem mse_X8_puts : Cond.selects RX8 yX8_puts yX8_puts ∈ w_T := w_in (i := 427) (by decide +kernel) (by decide +kernel)
theorem mc_X8_puts : Cond.code yX8_puts cX8_puts 3 (some .int) ∈ w_T := w_in (i := 428) (by decide +kernel) (by decide +kernel)
theorem ml_X8_125 : Cond.methodLink RX8 125 yX2_remember ∈ w_T := w_in (i := 429) (by decide +kernel) (by decide +kernel)
theorem mi_X2_remember : Cond.instanceMethod yX2_remember ∈ w_T := w_in (i := 430) (by decide +kernel) (by decide +kernel)
theorem mse_X2_remember : Cond.selects RX2 yX2_remember yX2_remember ∈ w_T := w_in (i := 431) (by decide +kernel) (by decide +kernel)
theorem mc_X2_remember : Cond.code yX2_remember cX2_remember 2 none ∈ w_T := w_in (i := 432) (by decide +kernel) (by decide +kernel)
theorem ml_X2_25 : Cond.methodLink RX2 25 yX6_copyFrom ∈ w_T := w_in (i := 433) (by decide +kernel) (by decide +kernel)
theorem mi_X6_copyFrom : Cond.instanceMethod yX6_copyFrom ∈ w_T := w_in (i := 434) (by decide +kernel) (by decide +kernel)
theorem mse_X6_copyFrom : Cond.selects RX6 yX6_copyFrom yX6_copyFrom ∈ w_T := w_in (i := 435) (by decide +kernel) (by decide +kernel)
theorem mc_X6_copyFrom : Cond.code yX6_copyFrom cX6_copyFrom 2 none ∈ w_T := w_in (i := 436) (by decide +kernel) (by decide +kernel)
theorem ml_X6_35 : Cond.methodLink RX6 35 arraycopyName ∈ w_T := w_in (i := 437) (by decide +kernel) (by decide +kernel)
theorem ml_X8_129 : Cond.methodLink RX8 129 yX6_insert ∈ w_T := w_in (i := 438) (by decide +kernel) (by decide +kernel)
theorem mi_X6_insert : Cond.instanceMethod yX6_insert ∈ w_T := w_in (i := 439) (by decide +kernel) (by decide +kernel)
theorem mse_X6_insert : Cond.selects RX6 yX6_insert yX6_insert ∈ w_T := w_in (i := 440) (by decide +kernel) (by decide +kernel)
theorem mc_X6_insert : Cond.code yX6_insert cX6_insert 4 none ∈ w_T := w_in (i := 441) (by decide +kernel) (by decide +kernel)
theorem ml_L_48 : Cond.methodLink RL 48 yX8_takes ∈ w_T := w_in (i := 442) (by decide +kernel) (by decide +kernel)
theorem mi_X8_takes : Cond.instanceMethod yX8_takes ∈ w_T := w_in (i := 443) (by decide +kernel) (by decide +kernel)
theorem mse_X8_takes : Cond.selects RX8 yX8_takes yX8_takes ∈ w_T := w_in (i := 444) (by decide +kernel) (by decide +kernel)
theorem mc_X8_takes : Cond.code yX8_takes cX8_takes 2 (some .int) ∈ w_T := w_in (i := 445) (by decide +kernel) (by decide +kernel)
theorem ml_X8_133 : Cond.methodLink RX8 133 yX6_hasPlace ∈ w_T := w_in (i := 446) (by decide +kernel) (by decide +kernel)
theorem mi_X6_hasPlace : Cond.instanceMethod yX6_hasPlace ∈ w_T := w_in (i := 447) (by decide +kernel) (by decide +kernel)
theorem mse_X6_hasPlace : Cond.selects RX6 yX6_hasPlace yX6_hasPlace ∈ w_T := w_in (i := 448) (by decide +kernel) (by decide +kernel)
theorem mc_X6_hasPlace : Cond.code yX6_hasPlace cX6_hasPlace 2 (some .boolean) ∈ w_T := w_in (i := 449) (by decide +kernel) (by decide +kernel)
theorem ml_X8_136 : Cond.methodLink RX8 136 yX6_remove ∈ w_T := w_in (i := 450) (by decide +kernel) (by decide +kernel)
theorem mi_X6_remove : Cond.instanceMethod yX6_remove ∈ w_T := w_in (i := 451) (by decide +kernel) (by decide +kernel)
theorem mse_X6_remove : Cond.selects RX6 yX6_remove yX6_remove ∈ w_T := w_in (i := 452) (by decide +kernel) (by decide +kernel)
theorem mc_X6_remove : Cond.code yX6_remove cX6_remove 4 (some .int) ∈ w_T := w_in (i := 453) (by decide +kernel) (by decide +kernel)
theorem ml_X6_31 : Cond.methodLink RX6 31 yX6_hasPlace ∈ w_T := w_in (i := 454) (by decide +kernel) (by decide +kernel)
theorem ml_L_52 : Cond.methodLink RL 52 yX8_places ∈ w_T := w_in (i := 455) (by decide +kernel) (by decide +kernel)
theorem mi_X8_places : Cond.instanceMethod yX8_places ∈ w_T := w_in (i := 456) (by decide +kernel) (by decide +kernel)
theorem mse_X8_places : Cond.selects RX8 yX8_places yX8_places ∈ w_T := w_in (i := 457) (by decide +kernel) (by decide +kernel)
theorem mc_X8_places : Cond.code yX8_places cX8_places 3 (some .int) ∈ w_T := w_in (i := 458) (by decide +kernel) (by decide +kernel)
theorem ml_X8_140 : Cond.methodLink RX8 140 yX6_nothingSent ∈ w_T := w_in (i := 459) (by decide +kernel) (by decide +kernel)
theorem ml_L_56 : Cond.methodLink RL 56 yX8_sends ∈ w_T := w_in (i := 460) (by decide +kernel) (by decide +kernel)
theorem mi_X8_sends : Cond.instanceMethod yX8_sends ∈ w_T := w_in (i := 461) (by decide +kernel) (by decide +kernel)
theorem mse_X8_sends : Cond.selects RX8 yX8_sends yX8_sends ∈ w_T := w_in (i := 462) (by decide +kernel) (by decide +kernel)
theorem mc_X8_sends : Cond.code yX8_sends cX8_sends 1 (some .int) ∈ w_T := w_in (i := 463) (by decide +kernel) (by decide +kernel)
theorem ml_X8_143 : Cond.methodLink RX8 143 yX1_make ∈ w_T := w_in (i := 464) (by decide +kernel) (by decide +kernel)
theorem mi_X1_make : Cond.instanceMethod yX1_make ∈ w_T := w_in (i := 465) (by decide +kernel) (by decide +kernel)
theorem mse_X1_make : Cond.selects RX1 yX1_make yX1_make ∈ w_T := w_in (i := 466) (by decide +kernel) (by decide +kernel)
theorem mc_X1_make : Cond.code yX1_make cX1_make 4 none ∈ w_T := w_in (i := 467) (by decide +kernel) (by decide +kernel)
theorem ml_X1_53 : Cond.methodLink RX1 53 yX1_findFewest ∈ w_T := w_in (i := 468) (by decide +kernel) (by decide +kernel)
theorem mi_X1_findFewest : Cond.instanceMethod yX1_findFewest ∈ w_T := w_in (i := 470) (by decide +kernel) (by decide +kernel)
theorem mc_X1_findFewest : Cond.code yX1_findFewest cX1_findFewest 5 (some .boolean) ∈ w_T := w_in (i := 471) (by decide +kernel) (by decide +kernel)
theorem ml_X1_60 : Cond.methodLink RX1 60 yX4_begin ∈ w_T := w_in (i := 472) (by decide +kernel) (by decide +kernel)
theorem mi_X4_begin : Cond.instanceMethod yX4_begin ∈ w_T := w_in (i := 473) (by decide +kernel) (by decide +kernel)
theorem mse_X4_begin : Cond.selects RX4 yX4_begin yX4_begin ∈ w_T := w_in (i := 474) (by decide +kernel) (by decide +kernel)
theorem mc_X4_begin : Cond.code yX4_begin cX4_begin 2 none ∈ w_T := w_in (i := 475) (by decide +kernel) (by decide +kernel)
theorem ml_X4_31 : Cond.methodLink RX4 31 yJ9_min_7cf53 ∈ w_T := w_in (i := 476) (by decide +kernel) (by decide +kernel)
theorem ms_J9_min_7cf53 : Cond.static yJ9_min_7cf53 ∈ w_T := w_in (i := 477) (by decide +kernel) (by decide +kernel)
theorem mc_J9_min_7cf53 : Cond.code yJ9_min_7cf53 cJ9_min_7cf53 2 (some .int) ∈ w_T := w_in (i := 478) (by decide +kernel) (by decide +kernel)
theorem ml_X1_64 : Cond.methodLink RX1 64 yX4_addCode ∈ w_T := w_in (i := 479) (by decide +kernel) (by decide +kernel)
theorem mi_X4_addCode : Cond.instanceMethod yX4_addCode ∈ w_T := w_in (i := 480) (by decide +kernel) (by decide +kernel)
theorem mse_X4_addCode : Cond.selects RX4 yX4_addCode yX4_addCode ∈ w_T := w_in (i := 481) (by decide +kernel) (by decide +kernel)
theorem mc_X4_addCode : Cond.code yX4_addCode cX4_addCode 5 (some .boolean) ∈ w_T := w_in (i := 482) (by decide +kernel) (by decide +kernel)
theorem ml_X4_40 : Cond.methodLink RX4 40 yX4_addThing ∈ w_T := w_in (i := 483) (by decide +kernel) (by decide +kernel)
theorem mi_X4_addThing : Cond.instanceMethod yX4_addThing ∈ w_T := w_in (i := 485) (by decide +kernel) (by decide +kernel)
theorem mc_X4_addThing : Cond.code yX4_addThing cX4_addThing 2 (some .boolean) ∈ w_T := w_in (i := 486) (by decide +kernel) (by decide +kernel)
theorem ml_X4_44 : Cond.methodLink RX4 44 yX0_letterOf ∈ w_T := w_in (i := 487) (by decide +kernel) (by decide +kernel)
theorem ml_X4_49 : Cond.methodLink RX4 49 yX4_addLetter ∈ w_T := w_in (i := 488) (by decide +kernel) (by decide +kernel)
theorem mi_X4_addLetter : Cond.instanceMethod yX4_addLetter ∈ w_T := w_in (i := 490) (by decide +kernel) (by decide +kernel)
theorem mc_X4_addLetter : Cond.code yX4_addLetter cX4_addLetter 4 (some .boolean) ∈ w_T := w_in (i := 491) (by decide +kernel) (by decide +kernel)
theorem ml_X4_52 : Cond.methodLink RX4 52 yX4_isThere ∈ w_T := w_in (i := 492) (by decide +kernel) (by decide +kernel)
theorem mi_X4_isThere : Cond.instanceMethod yX4_isThere ∈ w_T := w_in (i := 494) (by decide +kernel) (by decide +kernel)
theorem mc_X4_isThere : Cond.code yX4_isThere cX4_isThere 3 (some .boolean) ∈ w_T := w_in (i := 495) (by decide +kernel) (by decide +kernel)
theorem ml_X4_55 : Cond.methodLink RX4 55 yX4_freeSubstitute ∈ w_T := w_in (i := 496) (by decide +kernel) (by decide +kernel)
theorem mi_X4_freeSubstitute : Cond.instanceMethod yX4_freeSubstitute ∈ w_T := w_in (i := 498) (by decide +kernel) (by decide +kernel)
theorem mc_X4_freeSubstitute : Cond.code yX4_freeSubstitute cX4_freeSubstitute 4 (some .int) ∈ w_T := w_in (i := 499) (by decide +kernel) (by decide +kernel)
theorem ml_X8_147 : Cond.methodLink RX8 147 yX6_isUp ∈ w_T := w_in (i := 500) (by decide +kernel) (by decide +kernel)
theorem mi_X6_isUp : Cond.instanceMethod yX6_isUp ∈ w_T := w_in (i := 501) (by decide +kernel) (by decide +kernel)
theorem mse_X6_isUp : Cond.selects RX6 yX6_isUp yX6_isUp ∈ w_T := w_in (i := 502) (by decide +kernel) (by decide +kernel)
theorem mc_X6_isUp : Cond.code yX6_isUp cX6_isUp 1 (some .boolean) ∈ w_T := w_in (i := 503) (by decide +kernel) (by decide +kernel)
theorem ml_L_60 : Cond.methodLink RL 60 yX8_answers ∈ w_T := w_in (i := 504) (by decide +kernel) (by decide +kernel)
theorem mi_X8_answers : Cond.instanceMethod yX8_answers ∈ w_T := w_in (i := 505) (by decide +kernel) (by decide +kernel)
theorem mse_X8_answers : Cond.selects RX8 yX8_answers yX8_answers ∈ w_T := w_in (i := 506) (by decide +kernel) (by decide +kernel)
theorem mc_X8_answers : Cond.code yX8_answers cX8_answers 2 (some .int) ∈ w_T := w_in (i := 507) (by decide +kernel) (by decide +kernel)
theorem ml_X8_164 : Cond.methodLink RX8 164 yX6_sendAgain ∈ w_T := w_in (i := 508) (by decide +kernel) (by decide +kernel)
theorem mi_X6_sendAgain : Cond.instanceMethod yX6_sendAgain ∈ w_T := w_in (i := 509) (by decide +kernel) (by decide +kernel)
theorem mse_X6_sendAgain : Cond.selects RX6 yX6_sendAgain yX6_sendAgain ∈ w_T := w_in (i := 510) (by decide +kernel) (by decide +kernel)
theorem mc_X6_sendAgain : Cond.code yX6_sendAgain cX6_sendAgain 1 (some .int) ∈ w_T := w_in (i := 511) (by decide +kernel) (by decide +kernel)
theorem ml_X8_167 : Cond.methodLink RX8 167 yX6_takeDown ∈ w_T := w_in (i := 512) (by decide +kernel) (by decide +kernel)
theorem mi_X6_takeDown : Cond.instanceMethod yX6_takeDown ∈ w_T := w_in (i := 513) (by decide +kernel) (by decide +kernel)
theorem mse_X6_takeDown : Cond.selects RX6 yX6_takeDown yX6_takeDown ∈ w_T := w_in (i := 514) (by decide +kernel) (by decide +kernel)
theorem mc_X6_takeDown : Cond.code yX6_takeDown cX6_takeDown 2 (some .int) ∈ w_T := w_in (i := 515) (by decide +kernel) (by decide +kernel)
theorem ml_L_64 : Cond.methodLink RL 64 yX8_undo ∈ w_T := w_in (i := 516) (by decide +kernel) (by decide +kernel)
theorem mi_X8_undo : Cond.instanceMethod yX8_undo ∈ w_T := w_in (i := 517) (by decide +kernel) (by decide +kernel)
theorem mse_X8_undo : Cond.selects RX8 yX8_undo yX8_undo ∈ w_T := w_in (i := 518) (by decide +kernel) (by decide +kernel)
theorem mc_X8_undo : Cond.code yX8_undo cX8_undo 1 (some .int) ∈ w_T := w_in (i := 519) (by decide +kernel) (by decide +kernel)
theorem ml_X8_170 : Cond.methodLink RX8 170 yX2_restore ∈ w_T := w_in (i := 520) (by decide +kernel) (by decide +kernel)
theorem mi_X2_restore : Cond.instanceMethod yX2_restore ∈ w_T := w_in (i := 521) (by decide +kernel) (by decide +kernel)
theorem mse_X2_restore : Cond.selects RX2 yX2_restore yX2_restore ∈ w_T := w_in (i := 522) (by decide +kernel) (by decide +kernel)
theorem mc_X2_restore : Cond.code yX2_restore cX2_restore 2 none ∈ w_T := w_in (i := 523) (by decide +kernel) (by decide +kernel)
theorem ml_L_68 : Cond.methodLink RL 68 yX8_message ∈ w_T := w_in (i := 524) (by decide +kernel) (by decide +kernel)
theorem mi_X8_message : Cond.instanceMethod yX8_message ∈ w_T := w_in (i := 525) (by decide +kernel) (by decide +kernel)
theorem mse_X8_message : Cond.selects RX8 yX8_message yX8_message ∈ w_T := w_in (i := 526) (by decide +kernel) (by decide +kernel)
theorem mc_X8_message : Cond.code yX8_message cX8_message 2 (some .int) ∈ w_T := w_in (i := 527) (by decide +kernel) (by decide +kernel)
theorem ml_L_72 : Cond.methodLink RL 72 yX8_hoist ∈ w_T := w_in (i := 528) (by decide +kernel) (by decide +kernel)
theorem mi_X8_hoist : Cond.instanceMethod yX8_hoist ∈ w_T := w_in (i := 529) (by decide +kernel) (by decide +kernel)
theorem mse_X8_hoist : Cond.selects RX8 yX8_hoist yX8_hoist ∈ w_T := w_in (i := 530) (by decide +kernel) (by decide +kernel)
theorem mc_X8_hoist : Cond.code yX8_hoist cX8_hoist 3 (some .int) ∈ w_T := w_in (i := 531) (by decide +kernel) (by decide +kernel)
theorem ml_X8_176 : Cond.methodLink RX8 176 yX1_has ∈ w_T := w_in (i := 532) (by decide +kernel) (by decide +kernel)
theorem mi_X1_has : Cond.instanceMethod yX1_has ∈ w_T := w_in (i := 533) (by decide +kernel) (by decide +kernel)
theorem mse_X1_has : Cond.selects RX1 yX1_has yX1_has ∈ w_T := w_in (i := 534) (by decide +kernel) (by decide +kernel)
theorem mc_X1_has : Cond.code yX1_has cX1_has 2 (some .boolean) ∈ w_T := w_in (i := 535) (by decide +kernel) (by decide +kernel)
theorem ml_X8_177 : Cond.methodLink RX8 177 yX1_show ∈ w_T := w_in (i := 536) (by decide +kernel) (by decide +kernel)
theorem mi_X1_show : Cond.instanceMethod yX1_show ∈ w_T := w_in (i := 537) (by decide +kernel) (by decide +kernel)
theorem mse_X1_show : Cond.selects RX1 yX1_show yX1_show ∈ w_T := w_in (i := 538) (by decide +kernel) (by decide +kernel)
theorem mc_X1_show : Cond.code yX1_show cX1_show 3 none ∈ w_T := w_in (i := 539) (by decide +kernel) (by decide +kernel)
theorem ml_X1_68 : Cond.methodLink RX1 68 yX1_has ∈ w_T := w_in (i := 540) (by decide +kernel) (by decide +kernel)
theorem ml_L_76 : Cond.methodLink RL 76 yX8_thing ∈ w_T := w_in (i := 541) (by decide +kernel) (by decide +kernel)
theorem mi_X8_thing : Cond.instanceMethod yX8_thing ∈ w_T := w_in (i := 542) (by decide +kernel) (by decide +kernel)
theorem mse_X8_thing : Cond.selects RX8 yX8_thing yX8_thing ∈ w_T := w_in (i := 543) (by decide +kernel) (by decide +kernel)
theorem mc_X8_thing : Cond.code yX8_thing cX8_thing 3 (some .int) ∈ w_T := w_in (i := 544) (by decide +kernel) (by decide +kernel)
theorem ml_L_80 : Cond.methodLink RL 80 yX8_told ∈ w_T := w_in (i := 545) (by decide +kernel) (by decide +kernel)
theorem mi_X8_told : Cond.instanceMethod yX8_told ∈ w_T := w_in (i := 546) (by decide +kernel) (by decide +kernel)
theorem mse_X8_told : Cond.selects RX8 yX8_told yX8_told ∈ w_T := w_in (i := 547) (by decide +kernel) (by decide +kernel)
theorem mc_X8_told : Cond.code yX8_told cX8_told 4 (some .int) ∈ w_T := w_in (i := 548) (by decide +kernel) (by decide +kernel)
theorem ml_X8_196 : Cond.methodLink RX8 196 yX8_isDistance ∈ w_T := w_in (i := 549) (by decide +kernel) (by decide +kernel)
theorem ms_X8_isDistance : Cond.static yX8_isDistance ∈ w_T := w_in (i := 550) (by decide +kernel) (by decide +kernel)
theorem mc_X8_isDistance : Cond.code yX8_isDistance cX8_isDistance 1 (some .boolean) ∈ w_T := w_in (i := 551) (by decide +kernel) (by decide +kernel)
theorem ml_X8_199 : Cond.methodLink RX8 199 yX0_mayBe ∈ w_T := w_in (i := 552) (by decide +kernel) (by decide +kernel)
theorem mi_X0_mayBe : Cond.instanceMethod yX0_mayBe ∈ w_T := w_in (i := 553) (by decide +kernel) (by decide +kernel)
theorem mse_X0_mayBe : Cond.selects RX0 yX0_mayBe yX0_mayBe ∈ w_T := w_in (i := 554) (by decide +kernel) (by decide +kernel)
theorem mc_X0_mayBe : Cond.code yX0_mayBe cX0_mayBe 5 (some .boolean) ∈ w_T := w_in (i := 555) (by decide +kernel) (by decide +kernel)
theorem ml_X0_49 : Cond.methodLink RX0 49 yX0_flagMayBe ∈ w_T := w_in (i := 556) (by decide +kernel) (by decide +kernel)
theorem mi_X0_flagMayBe : Cond.instanceMethod yX0_flagMayBe ∈ w_T := w_in (i := 558) (by decide +kernel) (by decide +kernel)
theorem mc_X0_flagMayBe : Cond.code yX0_flagMayBe cX0_flagMayBe 4 (some .boolean) ∈ w_T := w_in (i := 559) (by decide +kernel) (by decide +kernel)
theorem ml_X0_53 : Cond.methodLink RX0 53 yX0_isBlurred ∈ w_T := w_in (i := 560) (by decide +kernel) (by decide +kernel)
theorem mi_X0_isBlurred : Cond.instanceMethod yX0_isBlurred ∈ w_T := w_in (i := 562) (by decide +kernel) (by decide +kernel)
theorem mc_X0_isBlurred : Cond.code yX0_isBlurred cX0_isBlurred 3 (some .boolean) ∈ w_T := w_in (i := 563) (by decide +kernel) (by decide +kernel)
theorem ml_L_85 : Cond.methodLink RL 85 yX8_meanings ∈ w_T := w_in (i := 564) (by decide +kernel) (by decide +kernel)
theorem mi_X8_meanings : Cond.instanceMethod yX8_meanings ∈ w_T := w_in (i := 565) (by decide +kernel) (by decide +kernel)
theorem mse_X8_meanings : Cond.selects RX8 yX8_meanings yX8_meanings ∈ w_T := w_in (i := 566) (by decide +kernel) (by decide +kernel)
theorem mc_X8_meanings : Cond.code yX8_meanings cX8_meanings 3 (some .int) ∈ w_T := w_in (i := 567) (by decide +kernel) (by decide +kernel)
theorem ml_X8_203 : Cond.methodLink RX8 203 yX1_waysToRead ∈ w_T := w_in (i := 568) (by decide +kernel) (by decide +kernel)
theorem mi_X1_waysToRead : Cond.instanceMethod yX1_waysToRead ∈ w_T := w_in (i := 569) (by decide +kernel) (by decide +kernel)
theorem mse_X1_waysToRead : Cond.selects RX1 yX1_waysToRead yX1_waysToRead ∈ w_T := w_in (i := 570) (by decide +kernel) (by decide +kernel)
theorem mc_X1_waysToRead : Cond.code yX1_waysToRead cX1_waysToRead 5 (some .int) ∈ w_T := w_in (i := 571) (by decide +kernel) (by decide +kernel)
theorem ml_X1_75 : Cond.methodLink RX1 75 yX0_likenesses ∈ w_T := w_in (i := 572) (by decide +kernel) (by decide +kernel)
theorem mi_X0_likenesses : Cond.instanceMethod yX0_likenesses ∈ w_T := w_in (i := 573) (by decide +kernel) (by decide +kernel)
theorem mse_X0_likenesses : Cond.selects RX0 yX0_likenesses yX0_likenesses ∈ w_T := w_in (i := 574) (by decide +kernel) (by decide +kernel)
theorem mc_X0_likenesses : Cond.code yX0_likenesses cX0_likenesses 5 (some .int) ∈ w_T := w_in (i := 575) (by decide +kernel) (by decide +kernel)
theorem ml_X0_57 : Cond.methodLink RX0 57 yX0_mayBe ∈ w_T := w_in (i := 576) (by decide +kernel) (by decide +kernel)
theorem ml_L_89 : Cond.methodLink RL 89 yX8_sees ∈ w_T := w_in (i := 577) (by decide +kernel) (by decide +kernel)
theorem mi_X8_sees : Cond.instanceMethod yX8_sees ∈ w_T := w_in (i := 578) (by decide +kernel) (by decide +kernel)
theorem mse_X8_sees : Cond.selects RX8 yX8_sees yX8_sees ∈ w_T := w_in (i := 579) (by decide +kernel) (by decide +kernel)
theorem mc_X8_sees : Cond.code yX8_sees cX8_sees 3 (some .int) ∈ w_T := w_in (i := 580) (by decide +kernel) (by decide +kernel)
theorem ml_X8_206 : Cond.methodLink RX8 206 yX5_note ∈ w_T := w_in (i := 581) (by decide +kernel) (by decide +kernel)
theorem mi_X5_note : Cond.instanceMethod yX5_note ∈ w_T := w_in (i := 582) (by decide +kernel) (by decide +kernel)
theorem mse_X5_note : Cond.selects RX5 yX5_note yX5_note ∈ w_T := w_in (i := 583) (by decide +kernel) (by decide +kernel)
theorem mc_X5_note : Cond.code yX5_note cX5_note 3 none ∈ w_T := w_in (i := 584) (by decide +kernel) (by decide +kernel)
theorem ml_L_93 : Cond.methodLink RL 93 yX8_forget ∈ w_T := w_in (i := 585) (by decide +kernel) (by decide +kernel)
theorem mi_X8_forget : Cond.instanceMethod yX8_forget ∈ w_T := w_in (i := 586) (by decide +kernel) (by decide +kernel)
theorem mse_X8_forget : Cond.selects RX8 yX8_forget yX8_forget ∈ w_T := w_in (i := 587) (by decide +kernel) (by decide +kernel)
theorem mc_X8_forget : Cond.code yX8_forget cX8_forget 2 (some .int) ∈ w_T := w_in (i := 588) (by decide +kernel) (by decide +kernel)
theorem ml_L_97 : Cond.methodLink RL 97 yX8_unseen ∈ w_T := w_in (i := 589) (by decide +kernel) (by decide +kernel)
theorem mi_X8_unseen : Cond.instanceMethod yX8_unseen ∈ w_T := w_in (i := 590) (by decide +kernel) (by decide +kernel)
theorem mse_X8_unseen : Cond.selects RX8 yX8_unseen yX8_unseen ∈ w_T := w_in (i := 591) (by decide +kernel) (by decide +kernel)
theorem mc_X8_unseen : Cond.code yX8_unseen cX8_unseen 3 (some .int) ∈ w_T := w_in (i := 592) (by decide +kernel) (by decide +kernel)
theorem ml_X8_209 : Cond.methodLink RX8 209 yX5_allFit ∈ w_T := w_in (i := 593) (by decide +kernel) (by decide +kernel)
theorem mi_X5_allFit : Cond.instanceMethod yX5_allFit ∈ w_T := w_in (i := 594) (by decide +kernel) (by decide +kernel)
theorem mse_X5_allFit : Cond.selects RX5 yX5_allFit yX5_allFit ∈ w_T := w_in (i := 595) (by decide +kernel) (by decide +kernel)
theorem mc_X5_allFit : Cond.code yX5_allFit cX5_allFit 3 (some .boolean) ∈ w_T := w_in (i := 596) (by decide +kernel) (by decide +kernel)
theorem ml_X5_22 : Cond.methodLink RX5 22 yX1_thingsOf ∈ w_T := w_in (i := 597) (by decide +kernel) (by decide +kernel)
theorem mi_X1_thingsOf : Cond.instanceMethod yX1_thingsOf ∈ w_T := w_in (i := 598) (by decide +kernel) (by decide +kernel)
theorem mse_X1_thingsOf : Cond.selects RX1 yX1_thingsOf yX1_thingsOf ∈ w_T := w_in (i := 599) (by decide +kernel) (by decide +kernel)
theorem mc_X1_thingsOf : Cond.code yX1_thingsOf cX1_thingsOf 2 (some .int) ∈ w_T := w_in (i := 600) (by decide +kernel) (by decide +kernel)
theorem ml_X1_71 : Cond.methodLink RX1 71 yX1_show ∈ w_T := w_in (i := 601) (by decide +kernel) (by decide +kernel)
theorem ml_L_101 : Cond.methodLink RL 101 yX8_keep ∈ w_T := w_in (i := 602) (by decide +kernel) (by decide +kernel)
theorem mi_X8_keep : Cond.instanceMethod yX8_keep ∈ w_T := w_in (i := 603) (by decide +kernel) (by decide +kernel)
theorem mse_X8_keep : Cond.selects RX8 yX8_keep yX8_keep ∈ w_T := w_in (i := 604) (by decide +kernel) (by decide +kernel)
theorem mc_X8_keep : Cond.code yX8_keep cX8_keep 2 (some .int) ∈ w_T := w_in (i := 605) (by decide +kernel) (by decide +kernel)
theorem ml_X8_213 : Cond.methodLink RX8 213 yX6_copyFrom ∈ w_T := w_in (i := 606) (by decide +kernel) (by decide +kernel)
theorem ml_L_105 : Cond.methodLink RL 105 yX8_back ∈ w_T := w_in (i := 607) (by decide +kernel) (by decide +kernel)
theorem mi_X8_back : Cond.instanceMethod yX8_back ∈ w_T := w_in (i := 608) (by decide +kernel) (by decide +kernel)
theorem mse_X8_back : Cond.selects RX8 yX8_back yX8_back ∈ w_T := w_in (i := 609) (by decide +kernel) (by decide +kernel)
theorem mc_X8_back : Cond.code yX8_back cX8_back 2 (some .int) ∈ w_T := w_in (i := 610) (by decide +kernel) (by decide +kernel)
theorem ml_L_109 : Cond.methodLink RL 109 yX8_count ∈ w_T := w_in (i := 611) (by decide +kernel) (by decide +kernel)
theorem mi_X8_count : Cond.instanceMethod yX8_count ∈ w_T := w_in (i := 612) (by decide +kernel) (by decide +kernel)
theorem mse_X8_count : Cond.selects RX8 yX8_count yX8_count ∈ w_T := w_in (i := 613) (by decide +kernel) (by decide +kernel)
theorem mc_X8_count : Cond.code yX8_count cX8_count 2 (some .int) ∈ w_T := w_in (i := 614) (by decide +kernel) (by decide +kernel)
theorem ml_X8_215 : Cond.methodLink RX8 215 yX1_farthest ∈ w_T := w_in (i := 615) (by decide +kernel) (by decide +kernel)
theorem mi_X1_farthest : Cond.instanceMethod yX1_farthest ∈ w_T := w_in (i := 616) (by decide +kernel) (by decide +kernel)
theorem mse_X1_farthest : Cond.selects RX1 yX1_farthest yX1_farthest ∈ w_T := w_in (i := 617) (by decide +kernel) (by decide +kernel)
theorem mc_X1_farthest : Cond.code yX1_farthest cX1_farthest 2 (some .int) ∈ w_T := w_in (i := 618) (by decide +kernel) (by decide +kernel)
theorem ml_X1_81 : Cond.methodLink RX1 81 yX1_isReadOneWay ∈ w_T := w_in (i := 619) (by decide +kernel) (by decide +kernel)
theorem mi_X1_isReadOneWay : Cond.instanceMethod yX1_isReadOneWay ∈ w_T := w_in (i := 621) (by decide +kernel) (by decide +kernel)
theorem mc_X1_isReadOneWay : Cond.code yX1_isReadOneWay cX1_isReadOneWay 3 (some .boolean) ∈ w_T := w_in (i := 622) (by decide +kernel) (by decide +kernel)
theorem mcl_L_10 : Cond.classLink RL 10 RX9 ∈ w_T := w_in (i := 623) (by decide +kernel) (by decide +kernel)
theorem minst_X9 : Cond.instantiable RX9 29 ∈ w_T := w_in (i := 624) (by decide +kernel) (by decide +kernel)
theorem ml_L_12 : Cond.methodLink RL 12 yX9_init ∈ w_T := w_in (i := 625) (by decide +kernel) (by decide +kernel)
theorem mi_X9_init : Cond.instanceMethod yX9_init ∈ w_T := w_in (i := 626) (by decide +kernel) (by decide +kernel)
theorem mc_X9_init : Cond.code yX9_init cX9_init 1 none ∈ w_T := w_in (i := 627) (by decide +kernel) (by decide +kernel)
theorem ml_X9_1 : Cond.methodLink RX9 1 objectInit ∈ w_T := w_in (i := 628) (by decide +kernel) (by decide +kernel)
theorem ml_X9_62 : Cond.methodLink RX9 62 yX9_firstFlags ∈ w_T := w_in (i := 629) (by decide +kernel) (by decide +kernel)
theorem ms_X9_firstFlags : Cond.static yX9_firstFlags ∈ w_T := w_in (i := 630) (by decide +kernel) (by decide +kernel)
theorem mc_X9_firstFlags : Cond.code yX9_firstFlags cX9_firstFlags 3 none ∈ w_T := w_in (i := 631) (by decide +kernel) (by decide +kernel)
theorem fk_X9_7 : w_F RX9 7 9 0 (.array .int) true := ⟨(RX9, TX9, 29), tyX9, rfl, in_X9, tyX9_ok, nmX9, by decide, w_in (i := 632) (by decide +kernel) (by decide +kernel), by decide +kernel, rfl⟩
theorem fk_X9_13 : w_F RX9 13 9 1 (.array .boolean) true := ⟨(RX9, TX9, 29), tyX9, rfl, in_X9, tyX9_ok, nmX9, by decide, w_in (i := 633) (by decide +kernel) (by decide +kernel), by decide +kernel, rfl⟩
theorem fk_X9_66 : w_F RX9 66 9 2 .int false := ⟨(RX9, TX9, 29), tyX9, rfl, in_X9, tyX9_ok, nmX9, by decide, w_in (i := 634) (by decide +kernel) (by decide +kernel), by decide +kernel, rfl⟩
theorem fk_X9_17 : w_F RX9 17 9 3 (.array .int) true := ⟨(RX9, TX9, 29), tyX9, rfl, in_X9, tyX9_ok, nmX9, by decide, w_in (i := 635) (by decide +kernel) (by decide +kernel), by decide +kernel, rfl⟩
theorem fk_X9_20 : w_F RX9 20 9 4 (.array .int) true := ⟨(RX9, TX9, 29), tyX9, rfl, in_X9, tyX9_ok, nmX9, by decide, w_in (i := 636) (by decide +kernel) (by decide +kernel), by decide +kernel, rfl⟩
theorem fk_X9_148 : w_F RX9 148 9 5 .int false := ⟨(RX9, TX9, 29), tyX9, rfl, in_X9, tyX9_ok, nmX9, by decide, w_in (i := 637) (by decide +kernel) (by decide +kernel), by decide +kernel, rfl⟩
theorem fk_X9_23 : w_F RX9 23 9 6 (.array .int) true := ⟨(RX9, TX9, 29), tyX9, rfl, in_X9, tyX9_ok, nmX9, by decide, w_in (i := 638) (by decide +kernel) (by decide +kernel), by decide +kernel, rfl⟩
theorem fk_X9_85 : w_F RX9 85 9 7 .int false := ⟨(RX9, TX9, 29), tyX9, rfl, in_X9, tyX9_ok, nmX9, by decide, w_in (i := 639) (by decide +kernel) (by decide +kernel), by decide +kernel, rfl⟩
theorem fk_X9_26 : w_F RX9 26 9 8 (.array .int) true := ⟨(RX9, TX9, 29), tyX9, rfl, in_X9, tyX9_ok, nmX9, by decide, w_in (i := 640) (by decide +kernel) (by decide +kernel), by decide +kernel, rfl⟩
theorem fk_X9_29 : w_F RX9 29 9 9 (.array .int) true := ⟨(RX9, TX9, 29), tyX9, rfl, in_X9, tyX9_ok, nmX9, by decide, w_in (i := 641) (by decide +kernel) (by decide +kernel), by decide +kernel, rfl⟩
theorem fk_X9_145 : w_F RX9 145 9 10 .int false := ⟨(RX9, TX9, 29), tyX9, rfl, in_X9, tyX9_ok, nmX9, by decide, w_in (i := 642) (by decide +kernel) (by decide +kernel), by decide +kernel, rfl⟩
theorem fk_X9_32 : w_F RX9 32 9 11 (.array .int) true := ⟨(RX9, TX9, 29), tyX9, rfl, in_X9, tyX9_ok, nmX9, by decide, w_in (i := 643) (by decide +kernel) (by decide +kernel), by decide +kernel, rfl⟩
theorem fk_X9_35 : w_F RX9 35 9 12 (.array .int) true := ⟨(RX9, TX9, 29), tyX9, rfl, in_X9, tyX9_ok, nmX9, by decide, w_in (i := 644) (by decide +kernel) (by decide +kernel), by decide +kernel, rfl⟩
theorem fk_X9_82 : w_F RX9 82 9 13 .int false := ⟨(RX9, TX9, 29), tyX9, rfl, in_X9, tyX9_ok, nmX9, by decide, w_in (i := 645) (by decide +kernel) (by decide +kernel), by decide +kernel, rfl⟩
theorem fk_X9_88 : w_F RX9 88 9 14 .int false := ⟨(RX9, TX9, 29), tyX9, rfl, in_X9, tyX9_ok, nmX9, by decide, w_in (i := 646) (by decide +kernel) (by decide +kernel), by decide +kernel, rfl⟩
theorem fk_X9_91 : w_F RX9 91 9 15 .int false := ⟨(RX9, TX9, 29), tyX9, rfl, in_X9, tyX9_ok, nmX9, by decide, w_in (i := 647) (by decide +kernel) (by decide +kernel), by decide +kernel, rfl⟩
theorem fk_X9_134 : w_F RX9 134 9 16 .int false := ⟨(RX9, TX9, 29), tyX9, rfl, in_X9, tyX9_ok, nmX9, by decide, w_in (i := 648) (by decide +kernel) (by decide +kernel), by decide +kernel, rfl⟩
theorem fk_X9_105 : w_F RX9 105 9 17 .int false := ⟨(RX9, TX9, 29), tyX9, rfl, in_X9, tyX9_ok, nmX9, by decide, w_in (i := 649) (by decide +kernel) (by decide +kernel), by decide +kernel, rfl⟩
theorem fk_X9_119 : w_F RX9 119 9 18 .int false := ⟨(RX9, TX9, 29), tyX9, rfl, in_X9, tyX9_ok, nmX9, by decide, w_in (i := 650) (by decide +kernel) (by decide +kernel), by decide +kernel, rfl⟩
theorem fk_X9_38 : w_F RX9 38 9 19 (.array .int) true := ⟨(RX9, TX9, 29), tyX9, rfl, in_X9, tyX9_ok, nmX9, by decide, w_in (i := 651) (by decide +kernel) (by decide +kernel), by decide +kernel, rfl⟩
theorem fk_X9_41 : w_F RX9 41 9 20 (.array .int) true := ⟨(RX9, TX9, 29), tyX9, rfl, in_X9, tyX9_ok, nmX9, by decide, w_in (i := 652) (by decide +kernel) (by decide +kernel), by decide +kernel, rfl⟩
theorem fk_X9_44 : w_F RX9 44 9 21 (.array .int) true := ⟨(RX9, TX9, 29), tyX9, rfl, in_X9, tyX9_ok, nmX9, by decide, w_in (i := 653) (by decide +kernel) (by decide +kernel), by decide +kernel, rfl⟩
theorem fk_X9_47 : w_F RX9 47 9 22 (.array .int) true := ⟨(RX9, TX9, 29), tyX9, rfl, in_X9, tyX9_ok, nmX9, by decide, w_in (i := 654) (by decide +kernel) (by decide +kernel), by decide +kernel, rfl⟩
theorem fk_X9_50 : w_F RX9 50 9 23 (.array .int) true := ⟨(RX9, TX9, 29), tyX9, rfl, in_X9, tyX9_ok, nmX9, by decide, w_in (i := 655) (by decide +kernel) (by decide +kernel), by decide +kernel, rfl⟩
theorem fk_X9_167 : w_F RX9 167 9 24 .int false := ⟨(RX9, TX9, 29), tyX9, rfl, in_X9, tyX9_ok, nmX9, by decide, w_in (i := 656) (by decide +kernel) (by decide +kernel), by decide +kernel, rfl⟩
theorem fk_X9_53 : w_F RX9 53 9 25 (.array .int) true := ⟨(RX9, TX9, 29), tyX9, rfl, in_X9, tyX9_ok, nmX9, by decide, w_in (i := 657) (by decide +kernel) (by decide +kernel), by decide +kernel, rfl⟩
theorem fk_X9_56 : w_F RX9 56 9 26 (.array .int) true := ⟨(RX9, TX9, 29), tyX9, rfl, in_X9, tyX9_ok, nmX9, by decide, w_in (i := 658) (by decide +kernel) (by decide +kernel), by decide +kernel, rfl⟩
theorem fk_X9_59 : w_F RX9 59 9 27 (.array .int) true := ⟨(RX9, TX9, 29), tyX9, rfl, in_X9, tyX9_ok, nmX9, by decide, w_in (i := 659) (by decide +kernel) (by decide +kernel), by decide +kernel, rfl⟩
theorem fk_X9_174 : w_F RX9 174 9 28 .int false := ⟨(RX9, TX9, 29), tyX9, rfl, in_X9, tyX9_ok, nmX9, by decide, w_in (i := 660) (by decide +kernel) (by decide +kernel), by decide +kernel, rfl⟩
theorem ml_L_17 : Cond.methodLink RL 17 yX9_type ∈ w_T := w_in (i := 720) (by decide +kernel) (by decide +kernel)
theorem mi_X9_type : Cond.instanceMethod yX9_type ∈ w_T := w_in (i := 721) (by decide +kernel) (by decide +kernel)
theorem mse_X9_type : Cond.selects RX9 yX9_type yX9_type ∈ w_T := w_in (i := 722) (by decide +kernel) (by decide +kernel)
theorem mc_X9_type : Cond.code yX9_type cX9_type 2 (some .int) ∈ w_T := w_in (i := 723) (by decide +kernel) (by decide +kernel)
theorem mk_X9_140 : Cond.constantLong RX9 140 255 ∈ w_T := w_in (i := 724) (by decide +kernel) (by decide +kernel)
theorem ml_X9_78 : Cond.methodLink RX9 78 yX9_in ∈ w_T := w_in (i := 725) (by decide +kernel) (by decide +kernel)
theorem ms_X9_in : Cond.static yX9_in ∈ w_T := w_in (i := 726) (by decide +kernel) (by decide +kernel)
theorem mc_X9_in : Cond.code yX9_in cX9_in 6 (some .boolean) ∈ w_T := w_in (i := 727) (by decide +kernel) (by decide +kernel)
theorem ml_L_22 : Cond.methodLink RL 22 yX9_clear ∈ w_T := w_in (i := 728) (by decide +kernel) (by decide +kernel)
theorem mi_X9_clear : Cond.instanceMethod yX9_clear ∈ w_T := w_in (i := 729) (by decide +kernel) (by decide +kernel)
theorem mse_X9_clear : Cond.selects RX9 yX9_clear yX9_clear ∈ w_T := w_in (i := 730) (by decide +kernel) (by decide +kernel)
theorem mc_X9_clear : Cond.code yX9_clear cX9_clear 2 (some .int) ∈ w_T := w_in (i := 731) (by decide +kernel) (by decide +kernel)
theorem ml_L_26 : Cond.methodLink RL 26 yX9_book ∈ w_T := w_in (i := 732) (by decide +kernel) (by decide +kernel)
theorem mi_X9_book : Cond.instanceMethod yX9_book ∈ w_T := w_in (i := 733) (by decide +kernel) (by decide +kernel)
theorem mse_X9_book : Cond.selects RX9 yX9_book yX9_book ∈ w_T := w_in (i := 734) (by decide +kernel) (by decide +kernel)
theorem mc_X9_book : Cond.code yX9_book cX9_book 3 (some .int) ∈ w_T := w_in (i := 735) (by decide +kernel) (by decide +kernel)
theorem ml_X9_142 : Cond.methodLink RX9 142 yX9_reads ∈ w_T := w_in (i := 736) (by decide +kernel) (by decide +kernel)
theorem mi_X9_reads : Cond.instanceMethod yX9_reads ∈ w_T := w_in (i := 738) (by decide +kernel) (by decide +kernel)
theorem mc_X9_reads : Cond.code yX9_reads cX9_reads 1 (some .boolean) ∈ w_T := w_in (i := 739) (by decide +kernel) (by decide +kernel)
theorem ml_X9_102 : Cond.methodLink RX9 102 yX9_take ∈ w_T := w_in (i := 740) (by decide +kernel) (by decide +kernel)
theorem mi_X9_take : Cond.instanceMethod yX9_take ∈ w_T := w_in (i := 742) (by decide +kernel) (by decide +kernel)
theorem mc_X9_take : Cond.code yX9_take cX9_take 1 none ∈ w_T := w_in (i := 743) (by decide +kernel) (by decide +kernel)
theorem ml_X9_94 : Cond.methodLink RX9 94 yX9_isDigit ∈ w_T := w_in (i := 744) (by decide +kernel) (by decide +kernel)
theorem ms_X9_isDigit : Cond.static yX9_isDigit ∈ w_T := w_in (i := 745) (by decide +kernel) (by decide +kernel)
theorem mc_X9_isDigit : Cond.code yX9_isDigit cX9_isDigit 1 (some .boolean) ∈ w_T := w_in (i := 746) (by decide +kernel) (by decide +kernel)
theorem mk_X9_74 : Cond.constantLong RX9 74 48 ∈ w_T := w_in (i := 747) (by decide +kernel) (by decide +kernel)
theorem mk_X9_76 : Cond.constantLong RX9 76 57 ∈ w_T := w_in (i := 748) (by decide +kernel) (by decide +kernel)
theorem ml_X9_137 : Cond.methodLink RX9 137 yX9_readsItem ∈ w_T := w_in (i := 749) (by decide +kernel) (by decide +kernel)
theorem mi_X9_readsItem : Cond.instanceMethod yX9_readsItem ∈ w_T := w_in (i := 751) (by decide +kernel) (by decide +kernel)
theorem mc_X9_readsItem : Cond.code yX9_readsItem cX9_readsItem 1 (some .boolean) ∈ w_T := w_in (i := 752) (by decide +kernel) (by decide +kernel)
theorem ml_X9_125 : Cond.methodLink RX9 125 yX9_readsPlaces ∈ w_T := w_in (i := 753) (by decide +kernel) (by decide +kernel)
theorem mi_X9_readsPlaces : Cond.instanceMethod yX9_readsPlaces ∈ w_T := w_in (i := 755) (by decide +kernel) (by decide +kernel)
theorem mc_X9_readsPlaces : Cond.code yX9_readsPlaces cX9_readsPlaces 1 (some .boolean) ∈ w_T := w_in (i := 756) (by decide +kernel) (by decide +kernel)
theorem ml_X9_108 : Cond.methodLink RX9 108 yX9_isNumber ∈ w_T := w_in (i := 757) (by decide +kernel) (by decide +kernel)
theorem mi_X9_isNumber : Cond.instanceMethod yX9_isNumber ∈ w_T := w_in (i := 759) (by decide +kernel) (by decide +kernel)
theorem mc_X9_isNumber : Cond.code yX9_isNumber cX9_isNumber 3 (some .boolean) ∈ w_T := w_in (i := 760) (by decide +kernel) (by decide +kernel)
theorem ml_X9_112 : Cond.methodLink RX9 112 yX9_readsEnd ∈ w_T := w_in (i := 761) (by decide +kernel) (by decide +kernel)
theorem mi_X9_readsEnd : Cond.instanceMethod yX9_readsEnd ∈ w_T := w_in (i := 763) (by decide +kernel) (by decide +kernel)
theorem mc_X9_readsEnd : Cond.code yX9_readsEnd cX9_readsEnd 2 (some .boolean) ∈ w_T := w_in (i := 764) (by decide +kernel) (by decide +kernel)
theorem ml_X9_128 : Cond.methodLink RX9 128 yX9_readsFlag ∈ w_T := w_in (i := 765) (by decide +kernel) (by decide +kernel)
theorem mi_X9_readsFlag : Cond.instanceMethod yX9_readsFlag ∈ w_T := w_in (i := 767) (by decide +kernel) (by decide +kernel)
theorem mc_X9_readsFlag : Cond.code yX9_readsFlag cX9_readsFlag 2 (some .boolean) ∈ w_T := w_in (i := 768) (by decide +kernel) (by decide +kernel)
theorem ml_X9_116 : Cond.methodLink RX9 116 yX9_isFlag ∈ w_T := w_in (i := 769) (by decide +kernel) (by decide +kernel)
theorem mi_X9_isFlag : Cond.instanceMethod yX9_isFlag ∈ w_T := w_in (i := 771) (by decide +kernel) (by decide +kernel)
theorem mc_X9_isFlag : Cond.code yX9_isFlag cX9_isFlag 1 (some .boolean) ∈ w_T := w_in (i := 772) (by decide +kernel) (by decide +kernel)
theorem mk_X9_98 : Cond.constantLong RX9 98 97 ∈ w_T := w_in (i := 773) (by decide +kernel) (by decide +kernel)
theorem mk_X9_100 : Cond.constantLong RX9 100 104 ∈ w_T := w_in (i := 774) (by decide +kernel) (by decide +kernel)
theorem ml_X9_131 : Cond.methodLink RX9 131 yX9_readsCode ∈ w_T := w_in (i := 775) (by decide +kernel) (by decide +kernel)
theorem mi_X9_readsCode : Cond.instanceMethod yX9_readsCode ∈ w_T := w_in (i := 777) (by decide +kernel) (by decide +kernel)
theorem mc_X9_readsCode : Cond.code yX9_readsCode cX9_readsCode 2 (some .boolean) ∈ w_T := w_in (i := 778) (by decide +kernel) (by decide +kernel)
theorem ml_X9_122 : Cond.methodLink RX9 122 yX9_isNew ∈ w_T := w_in (i := 779) (by decide +kernel) (by decide +kernel)
theorem mi_X9_isNew : Cond.instanceMethod yX9_isNew ∈ w_T := w_in (i := 781) (by decide +kernel) (by decide +kernel)
theorem mc_X9_isNew : Cond.code yX9_isNew cX9_isNew 5 (some .boolean) ∈ w_T := w_in (i := 782) (by decide +kernel) (by decide +kernel)
theorem ml_L_31 : Cond.methodLink RL 31 yX9_flag ∈ w_T := w_in (i := 783) (by decide +kernel) (by decide +kernel)
theorem mi_X9_flag : Cond.instanceMethod yX9_flag ∈ w_T := w_in (i := 784) (by decide +kernel) (by decide +kernel)
theorem mse_X9_flag : Cond.selects RX9 yX9_flag yX9_flag ∈ w_T := w_in (i := 785) (by decide +kernel) (by decide +kernel)
theorem mc_X9_flag : Cond.code yX9_flag cX9_flag 3 (some .int) ∈ w_T := w_in (i := 786) (by decide +kernel) (by decide +kernel)
theorem mk_X9_151 : Cond.constantLong RX9 151 7 ∈ w_T := w_in (i := 787) (by decide +kernel) (by decide +kernel)
theorem ml_L_35 : Cond.methodLink RL 35 yX9_code ∈ w_T := w_in (i := 788) (by decide +kernel) (by decide +kernel)
theorem mi_X9_code : Cond.instanceMethod yX9_code ∈ w_T := w_in (i := 789) (by decide +kernel) (by decide +kernel)
theorem mse_X9_code : Cond.selects RX9 yX9_code yX9_code ∈ w_T := w_in (i := 790) (by decide +kernel) (by decide +kernel)
theorem mc_X9_code : Cond.code yX9_code cX9_code 3 (some .int) ∈ w_T := w_in (i := 791) (by decide +kernel) (by decide +kernel)
theorem ml_X9_153 : Cond.methodLink RX9 153 yX9_isSentence ∈ w_T := w_in (i := 792) (by decide +kernel) (by decide +kernel)
theorem mi_X9_isSentence : Cond.instanceMethod yX9_isSentence ∈ w_T := w_in (i := 794) (by decide +kernel) (by decide +kernel)
theorem mc_X9_isSentence : Cond.code yX9_isSentence cX9_isSentence 2 (some .boolean) ∈ w_T := w_in (i := 795) (by decide +kernel) (by decide +kernel)
theorem ml_L_39 : Cond.methodLink RL 39 yX9_sorted ∈ w_T := w_in (i := 796) (by decide +kernel) (by decide +kernel)
theorem mi_X9_sorted : Cond.instanceMethod yX9_sorted ∈ w_T := w_in (i := 797) (by decide +kernel) (by decide +kernel)
theorem mse_X9_sorted : Cond.selects RX9 yX9_sorted yX9_sorted ∈ w_T := w_in (i := 798) (by decide +kernel) (by decide +kernel)
theorem mc_X9_sorted : Cond.code yX9_sorted cX9_sorted 2 (some .int) ∈ w_T := w_in (i := 799) (by decide +kernel) (by decide +kernel)
theorem ml_X9_160 : Cond.methodLink RX9 160 yX9_atRank ∈ w_T := w_in (i := 800) (by decide +kernel) (by decide +kernel)
theorem mi_X9_atRank : Cond.instanceMethod yX9_atRank ∈ w_T := w_in (i := 802) (by decide +kernel) (by decide +kernel)
theorem mc_X9_atRank : Cond.code yX9_atRank cX9_atRank 5 (some .int) ∈ w_T := w_in (i := 803) (by decide +kernel) (by decide +kernel)
theorem ml_X9_156 : Cond.methodLink RX9 156 yX9_asNumber ∈ w_T := w_in (i := 804) (by decide +kernel) (by decide +kernel)
theorem mi_X9_asNumber : Cond.instanceMethod yX9_asNumber ∈ w_T := w_in (i := 806) (by decide +kernel) (by decide +kernel)
theorem mc_X9_asNumber : Cond.code yX9_asNumber cX9_asNumber 4 (some .int) ∈ w_T := w_in (i := 807) (by decide +kernel) (by decide +kernel)
theorem ml_L_43 : Cond.methodLink RL 43 yX9_first ∈ w_T := w_in (i := 808) (by decide +kernel) (by decide +kernel)
theorem mi_X9_first : Cond.instanceMethod yX9_first ∈ w_T := w_in (i := 809) (by decide +kernel) (by decide +kernel)
theorem mse_X9_first : Cond.selects RX9 yX9_first yX9_first ∈ w_T := w_in (i := 810) (by decide +kernel) (by decide +kernel)
theorem mc_X9_first : Cond.code yX9_first cX9_first 4 (some .int) ∈ w_T := w_in (i := 811) (by decide +kernel) (by decide +kernel)
theorem ml_L_71 : Cond.methodLink RL 71 yX9_message ∈ w_T := w_in (i := 812) (by decide +kernel) (by decide +kernel)
theorem mi_X9_message : Cond.instanceMethod yX9_message ∈ w_T := w_in (i := 813) (by decide +kernel) (by decide +kernel)
theorem mse_X9_message : Cond.selects RX9 yX9_message yX9_message ∈ w_T := w_in (i := 814) (by decide +kernel) (by decide +kernel)
theorem mc_X9_message : Cond.code yX9_message cX9_message 2 (some .int) ∈ w_T := w_in (i := 815) (by decide +kernel) (by decide +kernel)
theorem ml_L_75 : Cond.methodLink RL 75 yX9_hoist ∈ w_T := w_in (i := 816) (by decide +kernel) (by decide +kernel)
theorem mi_X9_hoist : Cond.instanceMethod yX9_hoist ∈ w_T := w_in (i := 817) (by decide +kernel) (by decide +kernel)
theorem mse_X9_hoist : Cond.selects RX9 yX9_hoist yX9_hoist ∈ w_T := w_in (i := 818) (by decide +kernel) (by decide +kernel)
theorem mc_X9_hoist : Cond.code yX9_hoist cX9_hoist 6 (some .int) ∈ w_T := w_in (i := 819) (by decide +kernel) (by decide +kernel)
theorem mk_X9_180 : Cond.constantLong RX9 180 3 ∈ w_T := w_in (i := 820) (by decide +kernel) (by decide +kernel)
theorem ml_X9_182 : Cond.methodLink RX9 182 yX9_makes ∈ w_T := w_in (i := 821) (by decide +kernel) (by decide +kernel)
theorem mi_X9_makes : Cond.instanceMethod yX9_makes ∈ w_T := w_in (i := 823) (by decide +kernel) (by decide +kernel)
theorem mc_X9_makes : Cond.code yX9_makes cX9_makes 6 none ∈ w_T := w_in (i := 824) (by decide +kernel) (by decide +kernel)
theorem ml_X9_177 : Cond.methodLink RX9 177 yX9_cutBy ∈ w_T := w_in (i := 825) (by decide +kernel) (by decide +kernel)
theorem mi_X9_cutBy : Cond.instanceMethod yX9_cutBy ∈ w_T := w_in (i := 827) (by decide +kernel) (by decide +kernel)
theorem mc_X9_cutBy : Cond.code yX9_cutBy cX9_cutBy 5 (some .int) ∈ w_T := w_in (i := 828) (by decide +kernel) (by decide +kernel)
theorem ml_X9_170 : Cond.methodLink RX9 170 yX9_shows ∈ w_T := w_in (i := 829) (by decide +kernel) (by decide +kernel)
theorem mi_X9_shows : Cond.instanceMethod yX9_shows ∈ w_T := w_in (i := 831) (by decide +kernel) (by decide +kernel)
theorem mc_X9_shows : Cond.code yX9_shows cX9_shows 10 (some .int) ∈ w_T := w_in (i := 832) (by decide +kernel) (by decide +kernel)
theorem ml_X9_163 : Cond.methodLink RX9 163 yX9_shownFor ∈ w_T := w_in (i := 833) (by decide +kernel) (by decide +kernel)
theorem mi_X9_shownFor : Cond.instanceMethod yX9_shownFor ∈ w_T := w_in (i := 835) (by decide +kernel) (by decide +kernel)
theorem mc_X9_shownFor : Cond.code yX9_shownFor cX9_shownFor 7 (some .int) ∈ w_T := w_in (i := 836) (by decide +kernel) (by decide +kernel)
theorem ml_X9_186 : Cond.methodLink RX9 186 yX9_things ∈ w_T := w_in (i := 837) (by decide +kernel) (by decide +kernel)
theorem mi_X9_things : Cond.instanceMethod yX9_things ∈ w_T := w_in (i := 839) (by decide +kernel) (by decide +kernel)
theorem mc_X9_things : Cond.code yX9_things cX9_things 2 (some .int) ∈ w_T := w_in (i := 840) (by decide +kernel) (by decide +kernel)
theorem mk_X9_189 : Cond.constantLong RX9 189 11 ∈ w_T := w_in (i := 841) (by decide +kernel) (by decide +kernel)
theorem mk_X9_191 : Cond.constantLong RX9 191 13 ∈ w_T := w_in (i := 842) (by decide +kernel) (by decide +kernel)
theorem ml_L_79 : Cond.methodLink RL 79 yX9_thing ∈ w_T := w_in (i := 843) (by decide +kernel) (by decide +kernel)
theorem mi_X9_thing : Cond.instanceMethod yX9_thing ∈ w_T := w_in (i := 844) (by decide +kernel) (by decide +kernel)
theorem mse_X9_thing : Cond.selects RX9 yX9_thing yX9_thing ∈ w_T := w_in (i := 845) (by decide +kernel) (by decide +kernel)
theorem mc_X9_thing : Cond.code yX9_thing cX9_thing 4 (some .int) ∈ w_T := w_in (i := 846) (by decide +kernel) (by decide +kernel)
theorem ml_L_47 : Cond.methodLink RL 47 yX9_puts ∈ w_T := w_in (i := 847) (by decide +kernel) (by decide +kernel)
theorem mi_X9_puts : Cond.instanceMethod yX9_puts ∈ w_T := w_in (i := 848) (by decide +kernel) (by decide +kernel)
theorem mse_X9_puts : Cond.selects RX9 yX9_puts yX9_puts ∈ w_T := w_in (i := 849) (by decide +kernel) (by decide +kernel)
theorem mc_X9_puts : Cond.code yX9_puts cX9_puts 4 (some .int) ∈ w_T := w_in (i := 850) (by decide +kernel) (by decide +kernel)
theorem ml_X9_193 : Cond.methodLink RX9 193 yX9_minds ∈ w_T := w_in (i := 851) (by decide +kernel) (by decide +kernel)
theorem mi_X9_minds : Cond.instanceMethod yX9_minds ∈ w_T := w_in (i := 853) (by decide +kernel) (by decide +kernel)
theorem mc_X9_minds : Cond.code yX9_minds cX9_minds 2 none ∈ w_T := w_in (i := 854) (by decide +kernel) (by decide +kernel)
theorem ml_X9_70 : Cond.methodLink RX9 70 yX9_copy ∈ w_T := w_in (i := 855) (by decide +kernel) (by decide +kernel)
theorem mi_X9_copy : Cond.instanceMethod yX9_copy ∈ w_T := w_in (i := 857) (by decide +kernel) (by decide +kernel)
theorem mc_X9_copy : Cond.code yX9_copy cX9_copy 4 none ∈ w_T := w_in (i := 858) (by decide +kernel) (by decide +kernel)
theorem ml_X9_196 : Cond.methodLink RX9 196 yX9_none ∈ w_T := w_in (i := 859) (by decide +kernel) (by decide +kernel)
theorem mi_X9_none : Cond.instanceMethod yX9_none ∈ w_T := w_in (i := 861) (by decide +kernel) (by decide +kernel)
theorem mc_X9_none : Cond.code yX9_none cX9_none 1 none ∈ w_T := w_in (i := 862) (by decide +kernel) (by decide +kernel)
theorem ml_L_51 : Cond.methodLink RL 51 yX9_takes ∈ w_T := w_in (i := 863) (by decide +kernel) (by decide +kernel)
theorem mi_X9_takes : Cond.instanceMethod yX9_takes ∈ w_T := w_in (i := 864) (by decide +kernel) (by decide +kernel)
theorem mse_X9_takes : Cond.selects RX9 yX9_takes yX9_takes ∈ w_T := w_in (i := 865) (by decide +kernel) (by decide +kernel)
theorem mc_X9_takes : Cond.code yX9_takes cX9_takes 4 (some .int) ∈ w_T := w_in (i := 866) (by decide +kernel) (by decide +kernel)
theorem ml_L_55 : Cond.methodLink RL 55 yX9_places ∈ w_T := w_in (i := 867) (by decide +kernel) (by decide +kernel)
theorem mi_X9_places : Cond.instanceMethod yX9_places ∈ w_T := w_in (i := 868) (by decide +kernel) (by decide +kernel)
theorem mse_X9_places : Cond.selects RX9 yX9_places yX9_places ∈ w_T := w_in (i := 869) (by decide +kernel) (by decide +kernel)
theorem mc_X9_places : Cond.code yX9_places cX9_places 3 (some .int) ∈ w_T := w_in (i := 870) (by decide +kernel) (by decide +kernel)
theorem ml_L_59 : Cond.methodLink RL 59 yX9_sends ∈ w_T := w_in (i := 871) (by decide +kernel) (by decide +kernel)
theorem mi_X9_sends : Cond.instanceMethod yX9_sends ∈ w_T := w_in (i := 872) (by decide +kernel) (by decide +kernel)
theorem mse_X9_sends : Cond.selects RX9 yX9_sends yX9_sends ∈ w_T := w_in (i := 873) (by decide +kernel) (by decide +kernel)
theorem mc_X9_sends : Cond.code yX9_sends cX9_sends 1 (some .int) ∈ w_T := w_in (i := 874) (by decide +kernel) (by decide +kernel)
theorem ml_L_63 : Cond.methodLink RL 63 yX9_answers ∈ w_T := w_in (i := 875) (by decide +kernel) (by decide +kernel)
theorem mi_X9_answers : Cond.instanceMethod yX9_answers ∈ w_T := w_in (i := 876) (by decide +kernel) (by decide +kernel)
theorem mse_X9_answers : Cond.selects RX9 yX9_answers yX9_answers ∈ w_T := w_in (i := 877) (by decide +kernel) (by decide +kernel)
theorem mc_X9_answers : Cond.code yX9_answers cX9_answers 3 (some .int) ∈ w_T := w_in (i := 878) (by decide +kernel) (by decide +kernel)
theorem ml_L_67 : Cond.methodLink RL 67 yX9_undo ∈ w_T := w_in (i := 879) (by decide +kernel) (by decide +kernel)
theorem mi_X9_undo : Cond.instanceMethod yX9_undo ∈ w_T := w_in (i := 880) (by decide +kernel) (by decide +kernel)
theorem mse_X9_undo : Cond.selects RX9 yX9_undo yX9_undo ∈ w_T := w_in (i := 881) (by decide +kernel) (by decide +kernel)
theorem mc_X9_undo : Cond.code yX9_undo cX9_undo 1 (some .int) ∈ w_T := w_in (i := 882) (by decide +kernel) (by decide +kernel)
theorem ml_L_84 : Cond.methodLink RL 84 yX9_told ∈ w_T := w_in (i := 883) (by decide +kernel) (by decide +kernel)
theorem mi_X9_told : Cond.instanceMethod yX9_told ∈ w_T := w_in (i := 884) (by decide +kernel) (by decide +kernel)
theorem mse_X9_told : Cond.selects RX9 yX9_told yX9_told ∈ w_T := w_in (i := 885) (by decide +kernel) (by decide +kernel)
theorem mc_X9_told : Cond.code yX9_told cX9_told 4 (some .int) ∈ w_T := w_in (i := 886) (by decide +kernel) (by decide +kernel)
theorem mk_X9_203 : Cond.constantLong RX9 203 9 ∈ w_T := w_in (i := 887) (by decide +kernel) (by decide +kernel)
theorem ml_X9_205 : Cond.methodLink RX9 205 yX9_isTold ∈ w_T := w_in (i := 888) (by decide +kernel) (by decide +kernel)
theorem mi_X9_isTold : Cond.instanceMethod yX9_isTold ∈ w_T := w_in (i := 890) (by decide +kernel) (by decide +kernel)
theorem mc_X9_isTold : Cond.code yX9_isTold cX9_isTold 6 (some .boolean) ∈ w_T := w_in (i := 891) (by decide +kernel) (by decide +kernel)
theorem ml_X9_199 : Cond.methodLink RX9 199 yX9_mayBe ∈ w_T := w_in (i := 892) (by decide +kernel) (by decide +kernel)
theorem mi_X9_mayBe : Cond.instanceMethod yX9_mayBe ∈ w_T := w_in (i := 894) (by decide +kernel) (by decide +kernel)
theorem mc_X9_mayBe : Cond.code yX9_mayBe cX9_mayBe 4 (some .boolean) ∈ w_T := w_in (i := 895) (by decide +kernel) (by decide +kernel)
theorem ml_L_88 : Cond.methodLink RL 88 yX9_meanings ∈ w_T := w_in (i := 896) (by decide +kernel) (by decide +kernel)
theorem mi_X9_meanings : Cond.instanceMethod yX9_meanings ∈ w_T := w_in (i := 897) (by decide +kernel) (by decide +kernel)
theorem mse_X9_meanings : Cond.selects RX9 yX9_meanings yX9_meanings ∈ w_T := w_in (i := 898) (by decide +kernel) (by decide +kernel)
theorem mc_X9_meanings : Cond.code yX9_meanings cX9_meanings 3 (some .int) ∈ w_T := w_in (i := 899) (by decide +kernel) (by decide +kernel)
theorem ml_X9_208 : Cond.methodLink RX9 208 yX9_ways ∈ w_T := w_in (i := 900) (by decide +kernel) (by decide +kernel)
theorem mi_X9_ways : Cond.instanceMethod yX9_ways ∈ w_T := w_in (i := 902) (by decide +kernel) (by decide +kernel)
theorem mc_X9_ways : Cond.code yX9_ways cX9_ways 7 (some .int) ∈ w_T := w_in (i := 903) (by decide +kernel) (by decide +kernel)
theorem ml_L_92 : Cond.methodLink RL 92 yX9_sees ∈ w_T := w_in (i := 904) (by decide +kernel) (by decide +kernel)
theorem mi_X9_sees : Cond.instanceMethod yX9_sees ∈ w_T := w_in (i := 905) (by decide +kernel) (by decide +kernel)
theorem mse_X9_sees : Cond.selects RX9 yX9_sees yX9_sees ∈ w_T := w_in (i := 906) (by decide +kernel) (by decide +kernel)
theorem mc_X9_sees : Cond.code yX9_sees cX9_sees 3 (some .int) ∈ w_T := w_in (i := 907) (by decide +kernel) (by decide +kernel)
theorem ml_L_96 : Cond.methodLink RL 96 yX9_forget ∈ w_T := w_in (i := 908) (by decide +kernel) (by decide +kernel)
theorem mi_X9_forget : Cond.instanceMethod yX9_forget ∈ w_T := w_in (i := 909) (by decide +kernel) (by decide +kernel)
theorem mse_X9_forget : Cond.selects RX9 yX9_forget yX9_forget ∈ w_T := w_in (i := 910) (by decide +kernel) (by decide +kernel)
theorem mc_X9_forget : Cond.code yX9_forget cX9_forget 2 (some .int) ∈ w_T := w_in (i := 911) (by decide +kernel) (by decide +kernel)
theorem ml_L_100 : Cond.methodLink RL 100 yX9_unseen ∈ w_T := w_in (i := 912) (by decide +kernel) (by decide +kernel)
theorem mi_X9_unseen : Cond.instanceMethod yX9_unseen ∈ w_T := w_in (i := 913) (by decide +kernel) (by decide +kernel)
theorem mse_X9_unseen : Cond.selects RX9 yX9_unseen yX9_unseen ∈ w_T := w_in (i := 914) (by decide +kernel) (by decide +kernel)
theorem mc_X9_unseen : Cond.code yX9_unseen cX9_unseen 6 (some .int) ∈ w_T := w_in (i := 915) (by decide +kernel) (by decide +kernel)
theorem ml_L_104 : Cond.methodLink RL 104 yX9_keep ∈ w_T := w_in (i := 916) (by decide +kernel) (by decide +kernel)
theorem mi_X9_keep : Cond.instanceMethod yX9_keep ∈ w_T := w_in (i := 917) (by decide +kernel) (by decide +kernel)
theorem mse_X9_keep : Cond.selects RX9 yX9_keep yX9_keep ∈ w_T := w_in (i := 918) (by decide +kernel) (by decide +kernel)
theorem mc_X9_keep : Cond.code yX9_keep cX9_keep 2 (some .int) ∈ w_T := w_in (i := 919) (by decide +kernel) (by decide +kernel)
theorem ml_L_108 : Cond.methodLink RL 108 yX9_back ∈ w_T := w_in (i := 920) (by decide +kernel) (by decide +kernel)
theorem mi_X9_back : Cond.instanceMethod yX9_back ∈ w_T := w_in (i := 921) (by decide +kernel) (by decide +kernel)
theorem mse_X9_back : Cond.selects RX9 yX9_back yX9_back ∈ w_T := w_in (i := 922) (by decide +kernel) (by decide +kernel)
theorem mc_X9_back : Cond.code yX9_back cX9_back 2 (some .int) ∈ w_T := w_in (i := 923) (by decide +kernel) (by decide +kernel)
theorem ml_L_112 : Cond.methodLink RL 112 yX9_count ∈ w_T := w_in (i := 924) (by decide +kernel) (by decide +kernel)
theorem mi_X9_count : Cond.instanceMethod yX9_count ∈ w_T := w_in (i := 925) (by decide +kernel) (by decide +kernel)
theorem mse_X9_count : Cond.selects RX9 yX9_count yX9_count ∈ w_T := w_in (i := 926) (by decide +kernel) (by decide +kernel)
theorem mc_X9_count : Cond.code yX9_count cX9_count 2 (some .int) ∈ w_T := w_in (i := 927) (by decide +kernel) (by decide +kernel)
theorem ml_X9_215 : Cond.methodLink RX9 215 yX9_count0 ∈ w_T := w_in (i := 928) (by decide +kernel) (by decide +kernel)
theorem mi_X9_count0 : Cond.instanceMethod yX9_count0 ∈ w_T := w_in (i := 930) (by decide +kernel) (by decide +kernel)
theorem mc_X9_count0 : Cond.code yX9_count0 cX9_count0 2 (some .int) ∈ w_T := w_in (i := 931) (by decide +kernel) (by decide +kernel)
theorem ml_X9_211 : Cond.methodLink RX9 211 yX9_farthest ∈ w_T := w_in (i := 932) (by decide +kernel) (by decide +kernel)
theorem mi_X9_farthest : Cond.instanceMethod yX9_farthest ∈ w_T := w_in (i := 934) (by decide +kernel) (by decide +kernel)
theorem mc_X9_farthest : Cond.code yX9_farthest cX9_farthest 3 (some .int) ∈ w_T := w_in (i := 935) (by decide +kernel) (by decide +kernel)
theorem mse_X3_readItem : Cond.selects RX3 yX3_readItem yX3_readItem ∈ w_T := w_in (i := 0) (by decide +kernel) (by decide +kernel)
theorem mse_X3_readPlaces : Cond.selects RX3 yX3_readPlaces yX3_readPlaces ∈ w_T := w_in (i := 1) (by decide +kernel) (by decide +kernel)
theorem mse_X3_take : Cond.selects RX3 yX3_take yX3_take ∈ w_T := w_in (i := 2) (by decide +kernel) (by decide +kernel)
theorem mse_X3_readFlag : Cond.selects RX3 yX3_readFlag yX3_readFlag ∈ w_T := w_in (i := 3) (by decide +kernel) (by decide +kernel)
theorem mse_X3_readCode : Cond.selects RX3 yX3_readCode yX3_readCode ∈ w_T := w_in (i := 4) (by decide +kernel) (by decide +kernel)
theorem mse_X1_findFewest : Cond.selects RX1 yX1_findFewest yX1_findFewest ∈ w_T := w_in (i := 5) (by decide +kernel) (by decide +kernel)
theorem mse_X4_addThing : Cond.selects RX4 yX4_addThing yX4_addThing ∈ w_T := w_in (i := 6) (by decide +kernel) (by decide +kernel)
theorem mse_X4_addLetter : Cond.selects RX4 yX4_addLetter yX4_addLetter ∈ w_T := w_in (i := 7) (by decide +kernel) (by decide +kernel)
theorem mse_X4_isThere : Cond.selects RX4 yX4_isThere yX4_isThere ∈ w_T := w_in (i := 8) (by decide +kernel) (by decide +kernel)
theorem mse_X4_freeSubstitute : Cond.selects RX4 yX4_freeSubstitute yX4_freeSubstitute ∈ w_T := w_in (i := 9) (by decide +kernel) (by decide +kernel)
theorem mse_X0_flagMayBe : Cond.selects RX0 yX0_flagMayBe yX0_flagMayBe ∈ w_T := w_in (i := 10) (by decide +kernel) (by decide +kernel)
theorem mse_X0_isBlurred : Cond.selects RX0 yX0_isBlurred yX0_isBlurred ∈ w_T := w_in (i := 11) (by decide +kernel) (by decide +kernel)
theorem mse_X1_isReadOneWay : Cond.selects RX1 yX1_isReadOneWay yX1_isReadOneWay ∈ w_T := w_in (i := 12) (by decide +kernel) (by decide +kernel)
theorem mse_X9_reads : Cond.selects RX9 yX9_reads yX9_reads ∈ w_T := w_in (i := 13) (by decide +kernel) (by decide +kernel)
theorem mse_X9_take : Cond.selects RX9 yX9_take yX9_take ∈ w_T := w_in (i := 14) (by decide +kernel) (by decide +kernel)
theorem mse_X9_readsItem : Cond.selects RX9 yX9_readsItem yX9_readsItem ∈ w_T := w_in (i := 15) (by decide +kernel) (by decide +kernel)
theorem mse_X9_readsPlaces : Cond.selects RX9 yX9_readsPlaces yX9_readsPlaces ∈ w_T := w_in (i := 16) (by decide +kernel) (by decide +kernel)
theorem mse_X9_isNumber : Cond.selects RX9 yX9_isNumber yX9_isNumber ∈ w_T := w_in (i := 17) (by decide +kernel) (by decide +kernel)
theorem mse_X9_readsEnd : Cond.selects RX9 yX9_readsEnd yX9_readsEnd ∈ w_T := w_in (i := 18) (by decide +kernel) (by decide +kernel)
theorem mse_X9_readsFlag : Cond.selects RX9 yX9_readsFlag yX9_readsFlag ∈ w_T := w_in (i := 19) (by decide +kernel) (by decide +kernel)
theorem mse_X9_isFlag : Cond.selects RX9 yX9_isFlag yX9_isFlag ∈ w_T := w_in (i := 20) (by decide +kernel) (by decide +kernel)
theorem mse_X9_readsCode : Cond.selects RX9 yX9_readsCode yX9_readsCode ∈ w_T := w_in (i := 21) (by decide +kernel) (by decide +kernel)
theorem mse_X9_isNew : Cond.selects RX9 yX9_isNew yX9_isNew ∈ w_T := w_in (i := 22) (by decide +kernel) (by decide +kernel)
theorem mse_X9_isSentence : Cond.selects RX9 yX9_isSentence yX9_isSentence ∈ w_T := w_in (i := 23) (by decide +kernel) (by decide +kernel)
theorem mse_X9_atRank : Cond.selects RX9 yX9_atRank yX9_atRank ∈ w_T := w_in (i := 24) (by decide +kernel) (by decide +kernel)
theorem mse_X9_asNumber : Cond.selects RX9 yX9_asNumber yX9_asNumber ∈ w_T := w_in (i := 25) (by decide +kernel) (by decide +kernel)
theorem mse_X9_makes : Cond.selects RX9 yX9_makes yX9_makes ∈ w_T := w_in (i := 26) (by decide +kernel) (by decide +kernel)
theorem mse_X9_cutBy : Cond.selects RX9 yX9_cutBy yX9_cutBy ∈ w_T := w_in (i := 27) (by decide +kernel) (by decide +kernel)
theorem mse_X9_shows : Cond.selects RX9 yX9_shows yX9_shows ∈ w_T := w_in (i := 28) (by decide +kernel) (by decide +kernel)
theorem mse_X9_shownFor : Cond.selects RX9 yX9_shownFor yX9_shownFor ∈ w_T := w_in (i := 29) (by decide +kernel) (by decide +kernel)
theorem mse_X9_things : Cond.selects RX9 yX9_things yX9_things ∈ w_T := w_in (i := 30) (by decide +kernel) (by decide +kernel)
theorem mse_X9_minds : Cond.selects RX9 yX9_minds yX9_minds ∈ w_T := w_in (i := 31) (by decide +kernel) (by decide +kernel)
theorem mse_X9_copy : Cond.selects RX9 yX9_copy yX9_copy ∈ w_T := w_in (i := 32) (by decide +kernel) (by decide +kernel)
theorem mse_X9_none : Cond.selects RX9 yX9_none yX9_none ∈ w_T := w_in (i := 33) (by decide +kernel) (by decide +kernel)
theorem mse_X9_isTold : Cond.selects RX9 yX9_isTold yX9_isTold ∈ w_T := w_in (i := 34) (by decide +kernel) (by decide +kernel)
theorem mse_X9_mayBe : Cond.selects RX9 yX9_mayBe yX9_mayBe ∈ w_T := w_in (i := 35) (by decide +kernel) (by decide +kernel)
theorem mse_X9_ways : Cond.selects RX9 yX9_ways yX9_ways ∈ w_T := w_in (i := 36) (by decide +kernel) (by decide +kernel)
theorem mse_X9_count0 : Cond.selects RX9 yX9_count0 yX9_count0 ∈ w_T := w_in (i := 37) (by decide +kernel) (by decide +kernel)
theorem mse_X9_farthest : Cond.selects RX9 yX9_farthest yX9_farthest ∈ w_T := w_in (i := 38) (by decide +kernel) (by decide +kernel)
end
section
/-! THE WORLD: all cells of the system in one list, by number; what they hold is V (cell, slot); a walk over it (Wp) hides the machine -/
abbrev wK : Type := (Nat × List (Option (Option Nat))) ⊕ ((Bool × Nat) ⊕ (Nat × (Nat → Option Nat)))
abbrev wV : Type := Nat → Nat → Int32
abbrev wE : Type := va_G × (Nat → ClassId)
abbrev wM : Type := MethodName × ByteArray × Nat × Option FieldType
abbrev wQ : Type := Option Value → List wK → (Nat → Nat) → wV → Prop
def w_f1 (ad : Nat → Nat) (x : Int32) : Option (Option Nat) → Value
  | none => .int x
  | some none => .null
  | some (some j) => .ref (ad j)
def w_fs (ad : Nat → Nat) (v : Nat → Int32) (sl : List (Option (Option Nat))) : List Value := sl.mapIdx (fun k o => w_f1 ad (v k) o)
def w_cell (ca : Nat → ClassId) (ad : Nat → Nat) (v : Nat → Int32) : wK → va_E
  | .inl o => .inr (o.1, w_fs ad v o.2)
  | .inr (.inl a) => .inl (ca (if a.1 then 1 else 0), a.2, .inl v)
  | .inr (.inr r) => .inl (ca 2, r.1, .inr (.inr (.inr (.inr (fun j => (r.2 j).map ad)))))
def w_ws (ca : Nat → ClassId) (S : List wK) (ad : Nat → Nat) (V : wV) : va_W := S.mapIdx (fun i k => (ad i, w_cell ca ad (V i) k))
def w_tys (ca : Nat → ClassId) : List (ClassId × FieldType) := [(ca 0, .int), (ca 1, .boolean), (ca 2, .object RX6)]
def up2 (V : wV) (i k : Nat) (x : Int32) : wV := fun j => if j = i then upd (V i) k x else V j
def up1 (V : wV) (i : Nat) (f : Nat → Int32) : wV := fun j => if j = i then f else V j
theorem up2_s {V : wV} {i k : Nat} {x : Int32} : up2 V i k x i k = x := by simp [up2, upd]
theorem up2_i {V : wV} {i j k q : Nat} {x : Int32} (h : j ≠ i) : up2 V i k x j q = V j q := by simp [up2, h]
theorem up2_k {V : wV} {i j k q : Nat} {x : Int32} (h : q ≠ k) : up2 V i k x j q = V j q := by
  by_cases hj : j = i
  · subst hj; simp [up2, upd, h]
  · simp [up2, hj]
theorem w_ws_get {ca : Nat → ClassId} {S : List wK} {ad : Nat → Nat} {V : wV} {i : Nat} {k : wK} (h : S[i]? = some k) : (w_ws ca S ad V)[i]? = some (ad i, w_cell ca ad (V i) k) := by simp [w_ws, h]
theorem w_ws_set {ca : Nat → ClassId} {S : List wK} {ad : Nat → Nat} {V V' : wV} {i : Nat} {k : wK} (h : S[i]? = some k) (ho : ∀ j, j ≠ i → V' j = V j) : w_ws ca S ad V' = (w_ws ca S ad V).set i (ad i, w_cell ca ad (V' i) k) := by
  apply List.ext_getElem?
  intro j
  by_cases hj : j = i
  · subst hj
    have hlt : j < (w_ws ca S ad V).length := (List.getElem?_eq_some_iff.mp (w_ws_get (ca := ca) (ad := ad) (V := V) h)).1
    rw [w_ws_get h, List.getElem?_set_self hlt]
  · rw [List.getElem?_set_ne (fun q => hj q.symm)]
    simp [w_ws, ho j hj]
theorem w_fs_get {ad : Nat → Nat} {v : Nat → Int32} {sl : List (Option (Option Nat))} {k : Nat} {o : Option (Option Nat)} (h : sl[k]? = some o) : (w_fs ad v sl)[k]? = some (w_f1 ad (v k) o) := by simp [w_fs, h]
theorem w_fs_len {ad : Nat → Nat} {v : Nat → Int32} {sl : List (Option (Option Nat))} : (w_fs ad v sl).length = sl.length := by simp [w_fs]
theorem w_fs_set {ad : Nat → Nat} {v : Nat → Int32} {sl : List (Option (Option Nat))} {k : Nat} (x : Int32) (h : sl[k]? = some none) : w_fs ad (upd v k x) sl = (w_fs ad v sl).set k (.int x) := by
  apply List.ext_getElem?
  intro j
  by_cases hj : j = k
  · subst hj
    have hlt : j < (w_fs ad v sl).length := by rw [w_fs_len]; exact (List.getElem?_eq_some_iff.mp h).1
    rw [w_fs_get h, List.getElem?_set_self hlt]
    simp [w_f1, upd]
  · rw [List.getElem?_set_ne (fun q => hj q.symm)]
    simp [w_fs, upd, hj]
/-- the nest mates' links, which a callee must hear by its start -/
def w_Nw (U : State) : Prop := va_Nw (.methodLinkNest RX8 9 yX7_init RX8) U ∧ va_Nw (.methodLinkNest RX8 34 yX6_init RX8) U ∧ va_Nw (.methodLinkNest RX2 17 yX6_init RX8) U ∧ va_Nw (.methodLinkNest RX8 64 yX5_init RX8) U ∧ va_Nw (.methodLinkNest RX1 17 yX4_init RX8) U
theorem w_Nw.warm {s U : State} (hW : s.WarmedH U.vm) (h : w_Nw s) : w_Nw U := ⟨h.1.warmM hW, h.2.1.warmM hW, h.2.2.1.warmM hW, h.2.2.2.1.warmM hW, h.2.2.2.2.warmM hW⟩
theorem w_Nw.same {u U : State} (hv : u.vm = U.vm) (h : w_Nw u) : w_Nw U := ⟨h.1.same rfl hv, h.2.1.same rfl hv, h.2.2.1.same rfl hv, h.2.2.2.1.same rfl hv, h.2.2.2.2.same rfl hv⟩
/-- what stands still in a method -/
def w_Cx (M : wM) (p : Program) (s : State) (m : MethodId) (args : Array Value) (meth : Method) (c : Code) : Prop :=
  p.tables.exec = Jvm.exec ∧ c.code = M.2.1 ∧ c.maxLocals = M.2.2.1 ∧ s.vm.findClass M.1.cls = some m.cls ∧ (∀ w ∈ w_T, w.before args s = true) ∧ meth.sig.returnType = M.2.2.2 ∧ meth.locks = false ∧ meth.name = M.1.name
/-- the world at a point of a method -/
def w_G (E : wE) (S : List wK) (ad : Nat → Nat) (V : wV) (A : Nat → Prop) (s : State) (H : Heap) (locs : List Loc) : Prop :=
  va_K E.1 vwCl (w_tys E.2) s ∧ va_P E.1 vwCl (w_ws E.2 S ad V) H ∧ va_D A (w_ws E.2 S ad V) ∧ va_S A s.heap H locs ∧ (∀ q, s.heap.size ≤ q → A q) ∧ w_Nw s
def w_Q (E : wE) (Q : wQ) (A : Nat → Prop) : Array Value → State → Outcome → State → Prop := fun _ st oc t =>
  (∃ (v : Option Value) (S : List wK) (ad : Nat → Nat) (V : wV), oc = .returned v ∧ Q v S ad V ∧ va_P E.1 vwCl (w_ws E.2 S ad V) t.heap ∧ va_K E.1 vwCl (w_tys E.2) t ∧ va_D A (w_ws E.2 S ad V)) ∧ va_F A st t
/-- A WALK: from this point of the method, whatever the machine is, the method returns with Q -/
def Wp (E : wE) (M : wM) (R : Room) (Q : wQ) (mc ms nc ns pc : Nat) (lv : List (Nat × Value)) (st : List Value) (S : List wK) (ad : Nat → Nat) (V : wV) : Prop :=
  ∀ (p : Program) (l : Launch) (e : Env) (s : State) (m : MethodId) (args : Array Value) (below : List Frame) (meth : Method) (c : Code) (H : Heap) (locs : List Loc) (A : Nat → Prop) (ls : Array Slot),
    w_Cx M p s m args meth c → w_G E S ad V A s H locs → lv_has ls M.2.2.1 lv → W p l e R s m args below meth c H locs nc ns (MQ below (w_Q E Q A) args s mc ms A) (F0 m pc ls st)
/-- A CONTRACT -/
def w_C (E : wE) (M : wM) (R : Room) (mc ms : Nat) (av : List Value) (S : List wK) (ad : Nat → Nat) (V : wV) (Q : wQ) : Prop :=
  ∀ (l : Launch) (sz : Nat), Met l M.1 (Cond.code M.1 M.2.1 M.2.2.1 M.2.2.2 :: w_T) R (va_Pc av (fun U => U.heap.size = sz ∧ va_P E.1 vwCl (w_ws E.2 S ad V) U.heap ∧ va_K E.1 vwCl (w_tys E.2) U ∧ va_D (fun _ => True) (w_ws E.2 S ad V) ∧ w_Nw U)) (w_Q E Q (va_A (w_ws E.2 S ad V) sz)) mc ms (va_A (w_ws E.2 S ad V) sz)
theorem w_C.of {E : wE} {M : wM} {R : Room} {mc ms : Nat} {av : List Value} {S : List wK} {ad : Nat → Nat} {V : wV} {Q : wQ} (hp : plainName M.1.cls = true) (hn : (lg_sl av).length ≤ M.2.2.1)
    (h : Wp E M R Q mc ms 0 0 0 (lv_args 0 av) [] S ad V) : w_C E M R mc ms av S ad V Q := by
  intro l sz
  refine Met.ofW (cc := M.2.1) (maxL := M.2.2.1) (ret := M.2.2.2) hp rfl ?_
  intro p e s m args below meth c s₁ B hml hv
  obtain ⟨rfl, hsz, hP, hK, hD0, hNw⟩ := hv
  subst hsz
  have hts := atoms_spec (ws := Cond.code M.1 M.2.1 M.2.2.1 M.2.2.2 :: w_T) B.pre
  have hl := lv_entry av (n := M.2.2.1) hn
  rw [lg_entry_eq]
  exact h p l e s m _ below meth c s.heap [] _ _ ⟨B.exec, B.bytes, hml, findClass_of_methodNamed B.named, fun w hw => hts w (List.mem_cons_of_mem _ hw), B.returns, B.notSynchronized, (name_of_methodNamed B.named B.method).1⟩ ⟨hK, hP, hD0.self, va_S.rf, fun q h => Or.inr h, hNw⟩ hl
/-- what is known of a callee: V: by invokevirtual, S: static, I: a constructor -/
def w_YV (M : wM) (n : Nat) : Prop := Cond.code M.1 M.2.1 M.2.2.1 M.2.2.2 ∈ w_T ∧ Cond.instanceMethod M.1 ∈ w_T ∧ Cond.selects M.1.cls M.1 M.1 ∈ w_T ∧ Cond.initialized M.1.cls ∈ w_T ∧ (M.1.cls ≠ "java/lang/invoke/MethodHandle" ∧ M.1.cls ≠ "java/lang/invoke/VarHandle" ∧ (parseMethodDescriptor M.1.desc).map (fun d => d.parameters.length) = some n)
def w_YS (M : wM) (n : Nat) : Prop := Cond.code M.1 M.2.1 M.2.2.1 M.2.2.2 ∈ w_T ∧ Cond.static M.1 ∈ w_T ∧ Cond.initialized M.1.cls ∈ w_T ∧ (M.1.cls ≠ "java/lang/invoke/MethodHandle" ∧ M.1.cls ≠ "java/lang/invoke/VarHandle" ∧ (parseMethodDescriptor M.1.desc).map (fun d => d.parameters.length) = some n)
def w_YI (M : wM) (n : Nat) : Prop := Cond.code M.1 M.2.1 M.2.2.1 M.2.2.2 ∈ w_T ∧ Cond.instanceMethod M.1 ∈ w_T ∧ Cond.initialized M.1.cls ∈ w_T ∧ M.1.name = "<init>" ∧ M.2.2.2 = none ∧ (M.1.cls ≠ "java/lang/invoke/MethodHandle" ∧ M.1.cls ≠ "java/lang/invoke/VarHandle" ∧ (parseMethodDescriptor M.1.desc).map (fun d => d.parameters.length) = some n)
theorem w_goodT {c : Cond} (hc : c ∈ w_T) : GoodIn w_T (c :: w_T) := by
  have key : ∀ w ∈ w_T, w ∈ w_T ∧ ((w.onTables && w.keeps) = true ∨ ∃ ty, w = .arrayClass ty) := fun w hw => ⟨hw, good_of_word (List.mem_filter.mp hw).2⟩
  intro w hw
  rcases List.mem_cons.mp hw with rfl | h
  · exact key _ hc
  · exact key w h
def w_Rm (M' : wM) (R R' : Room) (nc ns mc' ms' : Nat) : Prop := R'.cells = mc' ∧ R'.slots = ms' ∧ R'.frames + 1 ≤ R.frames ∧ 8 + (M'.2.2.1 + 11) + R'.locals ≤ R.locals ∧ nc + mc' ≤ R.cells ∧ ns + ms' ≤ R.slots
section WCALL
variable {E : wE} {p : Program} {l : Launch} {e : Env} {R : Room} {s : State} {m : MethodId} {args : Array Value} {below : List Frame} {meth : Method} {c : Code} {H : Heap} {locs : List Loc} {Qs : State → Prop}
variable {M M' : wM} {R' : Room} {Q' : wQ} {mc' ms' nc ns pc : Nat} {st rest As : List Value} {S : List wK} {ad : Nat → Nat} {V : wV} {A : Nat → Prop} {ls : Array Slot} {nL : Nat}
theorem w_blind {E : wE} {S : List wK} {ad : Nat → Nat} {V : wV} {av : List Value} {sz : Nat} : FrameBlind (va_Pc av (fun U => U.heap.size = sz ∧ va_P E.1 vwCl (w_ws E.2 S ad V) U.heap ∧ va_K E.1 vwCl (w_tys E.2) U ∧ va_D (fun _ => True) (w_ws E.2 S ad V) ∧ w_Nw U)) := by
  intro a U g mk q
  obtain ⟨q0, q1, qP, qK, qD, qN⟩ := q
  exact ⟨q0, q1, qP, va_K.moved (u := U) (U := U.calling g mk a) (Vm.Alike.refl U.vm) qK, qD, w_Nw.same (u := U) rfl qN⟩
/-- behind any call -/
theorem w_after (hG : w_G E S ad V A s H locs) (hr : va_Run p l e R s m args below meth c H locs nc ns mc' ms' (F0 m pc ls st) rest (w_Q E Q' (va_A (w_ws E.2 S ad V) H.size) As.toArray) (va_A (w_ws E.2 S ad V) H.size))
    (kk : ∀ (v : Option Value) (S' : List wK) (ad' : Nat → Nat) (V' : wV) (H1 : Heap) (locs1 : List Loc), Q' v S' ad' V' → w_G E S' ad' V' A s H1 locs1 → W p l e R s m args below meth c H1 locs1 (nc + mc') (ns + ms') Qs (F0 m (pc + 3) ls (v.toList ++ rest))) :
    W p l e R s m args below meth c H locs nc ns Qs (F0 m pc ls st) := by
  obtain ⟨hK, hP, hD, hS, hA, hN⟩ := hG
  have hF : ∀ q, va_A (w_ws E.2 S ad V) H.size q → A q := by
    intro q h
    rcases h with ⟨k, e, h⟩ | h
    · exact hD.2 k (q, e) h
    · exact hA q (Nat.le_trans hS.1 h)
  intro T hT X
  obtain ⟨v, st₀, t, T', L, h0, X', hL, e1, e2, ⟨⟨v', S', ad', V', hv, hq, hP1, hK1, hD1⟩, hz, hk⟩, stp⟩ := hr T hT X
  cases hv
  rw [h0] at hz hk
  have hal : s.vm.Alike t.vm := by rw [← e2]; exact X'.warmed.alike
  obtain ⟨t2, a1, b1⟩ := kk v S' ad' V' T'.heap (locs ++ L) hq ⟨hK, by rw [e1]; exact hP1, hD1.weaken (fun k q _ h => hF q.1 h), ⟨Nat.le_trans hS.1 (by rw [e1]; exact hz), fun q h1 h2 => by rw [e1]; exact (hk q (Nat.lt_of_lt_of_le h1 hS.1) (fun h => h2 (hF q h))).trans (hS.2.1 q h1 h2), fun l hl => (List.mem_append.mp hl).elim (hS.2.2 l) (fun h => hF _ (hL l h))⟩, hA, hN⟩ T' rfl X'
  exact ⟨t2, stp t2 a1, b1⟩
end WCALL
end
section
/-! ROWS OF A WALK: an instruction each -/
def bI (b : Bool) : Int32 := if b then 1 else 0
theorem bI_t : bI true = 1 := rfl
theorem bI_f : bI false = 0 := rfl
theorem bI_nar (b : Bool) : narrow .boolean (.int (bI b)) = .int (bI b) := by cases b <;> rfl
theorem bI_0 {b : Bool} : bI b = 0 ↔ b = false := by cases b <;> decide
def w_o (S : List wK) (ad : Nat → Nat) (q : Option Value → wV → Prop) : wQ := fun v S' ad' V' => S' = S ∧ ad' = ad ∧ q v V'
def w_i (S : List wK) (ad : Nat → Nat) (q : Int32 → wV → Prop) : wQ := fun v S' ad' V' => S' = S ∧ ad' = ad ∧ ∃ r, v = some (.int r) ∧ q r V'
def w_v (S : List wK) (ad : Nat → Nat) (q : wV → Prop) : wQ := fun v S' ad' V' => S' = S ∧ ad' = ad ∧ v = none ∧ q V'
def w_R (d mc ms : Nat) : Room := { frames := d, cells := mc, slots := ms, locals := 30 * d }
theorem w_Rm0 {M' : wM} {d d' nc ns mc ms : Nat} (h : d' < d) (hl : M'.2.2.1 ≤ 11) (hc : nc ≤ mc) (hs : ns ≤ ms) : w_Rm M' (w_R d mc ms) (w_R d' 0 0) nc ns 0 0 := by
  refine ⟨rfl, rfl, h, ?_, hc, hs⟩
  show 8 + (M'.2.2.1 + 11) + 30 * d' ≤ 30 * d
  omega
theorem w_min_s : Cond.static Lib.Math.min.name ∈ w_T := ms_J9_min_7cf53
theorem w_min_c : Cond.code Lib.Math.min.name Lib.Math.min.code 2 (some .int) ∈ w_T := mc_J9_min_7cf53
section WROWS
variable {E : wE} {M : wM} {R : Room} {Q : wQ} {mc ms nc ns pc : Nat} {lv : List (Nat × Value)} {st : List Value} {S : List wK} {ad : Nat → Nat} {V : wV}
theorem Wp_iconst {n : Int} {v : Int32} (hdg : decode M.2.1 pc = .ok (.iconst n, 1)) (hv : Int32.ofInt n = v) (k : Wp E M R Q mc ms nc ns (pc + 1) lv (.int v :: st) S ad V) : Wp E M R Q mc ms nc ns pc lv st S ad V := fun p l e s m args below meth c H locs A ls hC hG hl => lv_iconst hC.1 hC.2.1 hdg hv (k p l e s m args below meth c H locs A ls hC hG hl)
theorem Wp_bipush {n : Int} {v : Int32} (hdg : decode M.2.1 pc = .ok (.bipush n, 2)) (hv : (Int8.ofInt n).toInt32 = v) (k : Wp E M R Q mc ms nc ns (pc + 2) lv (.int v :: st) S ad V) : Wp E M R Q mc ms nc ns pc lv st S ad V := fun p l e s m args below meth c H locs A ls hC hG hl => lv_bipush hC.1 hC.2.1 hdg hv (k p l e s m args below meth c H locs A ls hC hG hl)
theorem Wp_sipush {n : Int} {v : Int32} (hdg : decode M.2.1 pc = .ok (.sipush n, 3)) (hv : (Int16.ofInt n).toInt32 = v) (k : Wp E M R Q mc ms nc ns (pc + 3) lv (.int v :: st) S ad V) : Wp E M R Q mc ms nc ns pc lv st S ad V := fun p l e s m args below meth c H locs A ls hC hG hl => lv_sipush hC.1 hC.2.1 hdg hv (k p l e s m args below meth c H locs A ls hC hG hl)
theorem Wp_lconst {n : Fin 2} {v : Int64} (hdg : decode M.2.1 pc = .ok (.lconst n, 1)) (hv : Int64.ofNat (n : Nat) = v) (k : Wp E M R Q mc ms nc ns (pc + 1) lv (.long v :: st) S ad V) : Wp E M R Q mc ms nc ns pc lv st S ad V := fun p l e s m args below meth c H locs A ls hC hG hl => lv_lconst hC.1 hC.2.1 hdg hv (k p l e s m args below meth c H locs A ls hC hG hl)
theorem Wp_iload_n {j : Fin 4} {i : Nat} {x : Int32} (hdg : decode M.2.1 pc = .ok (.iload_n j, 1)) (hi : (j : Nat) = i) (q : Nat) (hq : lv[q]? = some (i, .int x)) (k : Wp E M R Q mc ms nc ns (pc + 1) lv (.int x :: st) S ad V) : Wp E M R Q mc ms nc ns pc lv st S ad V := fun p l e s m args below meth c H locs A ls hC hG hl => lv_iload_n hC.1 hC.2.1 hdg hi (lv_at hl q hq) (k p l e s m args below meth c H locs A ls hC hG hl)
theorem Wp_iload {i : Nat} {x : Int32} (hdg : decode M.2.1 pc = .ok (.iload i, 2)) (q : Nat) (hq : lv[q]? = some (i, .int x)) (k : Wp E M R Q mc ms nc ns (pc + 2) lv (.int x :: st) S ad V) : Wp E M R Q mc ms nc ns pc lv st S ad V := fun p l e s m args below meth c H locs A ls hC hG hl => lv_iload hC.1 hC.2.1 hdg (lv_at hl q hq) (k p l e s m args below meth c H locs A ls hC hG hl)
theorem Wp_aload_n {j : Fin 4} {i x : Nat} (hdg : decode M.2.1 pc = .ok (.aload_n j, 1)) (hi : (j : Nat) = i) (q : Nat) (hq : lv[q]? = some (i, .ref x)) (k : Wp E M R Q mc ms nc ns (pc + 1) lv (.ref x :: st) S ad V) : Wp E M R Q mc ms nc ns pc lv st S ad V := fun p l e s m args below meth c H locs A ls hC hG hl => lv_aload_n hC.1 hC.2.1 hdg hi (lv_at hl q hq) (k p l e s m args below meth c H locs A ls hC hG hl)
theorem Wp_lload_n {j : Fin 4} {i : Nat} {x : Int64} (hdg : decode M.2.1 pc = .ok (.lload_n j, 1)) (hi : (j : Nat) = i) (q : Nat) (hq : lv[q]? = some (i, .long x)) (k : Wp E M R Q mc ms nc ns (pc + 1) lv (.long x :: st) S ad V) : Wp E M R Q mc ms nc ns pc lv st S ad V := fun p l e s m args below meth c H locs A ls hC hG hl => lv_lload_n hC.1 hC.2.1 hdg hi (lv_at hl q hq) (k p l e s m args below meth c H locs A ls hC hG hl)
theorem Wp_lload {i : Nat} {x : Int64} (hdg : decode M.2.1 pc = .ok (.lload i, 2)) (q : Nat) (hq : lv[q]? = some (i, .long x)) (k : Wp E M R Q mc ms nc ns (pc + 2) lv (.long x :: st) S ad V) : Wp E M R Q mc ms nc ns pc lv st S ad V := fun p l e s m args below meth c H locs A ls hC hG hl => lv_lload hC.1 hC.2.1 hdg (lv_at hl q hq) (k p l e s m args below meth c H locs A ls hC hG hl)
theorem Wp_istore_n {j : Fin 4} {i : Nat} {x : Int32} {lv' : List (Nat × Value)} (hdg : decode M.2.1 pc = .ok (.istore_n j, 1)) (hi : (j : Nat) = i) (hn : i < M.2.2.1) (hl' : (i, Value.int x) :: lv.filter (fun q => !(q.1 == i) && !(q.1 + 1 == i && q.2.category == 2)) = lv') (k : Wp E M R Q mc ms nc ns (pc + 1) lv' st S ad V) : Wp E M R Q mc ms nc ns pc lv (.int x :: st) S ad V := fun p l e s m args below meth c H locs A ls hC hG hl => lv_istore_n hC.1 hC.2.1 hdg hi hl hn hl' (fun ls hl => k p l e s m args below meth c H locs A ls hC hG hl)
theorem Wp_istore {i : Nat} {x : Int32} {lv' : List (Nat × Value)} (hdg : decode M.2.1 pc = .ok (.istore i, 2))  (hn : i < M.2.2.1) (hl' : (i, Value.int x) :: lv.filter (fun q => !(q.1 == i) && !(q.1 + 1 == i && q.2.category == 2)) = lv') (k : Wp E M R Q mc ms nc ns (pc + 2) lv' st S ad V) : Wp E M R Q mc ms nc ns pc lv (.int x :: st) S ad V := fun p l e s m args below meth c H locs A ls hC hG hl => lv_istore hC.1 hC.2.1 hdg hl hn hl' (fun ls hl => k p l e s m args below meth c H locs A ls hC hG hl)
theorem Wp_astore_n {j : Fin 4} {i : Nat} {x : Nat} {lv' : List (Nat × Value)} (hdg : decode M.2.1 pc = .ok (.astore_n j, 1)) (hi : (j : Nat) = i) (hn : i < M.2.2.1) (hl' : (i, Value.ref x) :: lv.filter (fun q => !(q.1 == i) && !(q.1 + 1 == i && q.2.category == 2)) = lv') (k : Wp E M R Q mc ms nc ns (pc + 1) lv' st S ad V) : Wp E M R Q mc ms nc ns pc lv (.ref x :: st) S ad V := fun p l e s m args below meth c H locs A ls hC hG hl => lv_astore_n hC.1 hC.2.1 hdg hi hl hn hl' (fun ls hl => k p l e s m args below meth c H locs A ls hC hG hl)
theorem Wp_iinc {i : Nat} {n : Int} {x0 x : Int32} {lv' : List (Nat × Value)} (hdg : decode M.2.1 pc = .ok (.iinc i n, 3)) (q : Nat) (hq : lv[q]? = some (i, .int x0)) (hv : x0 + Int32.ofInt n = x) (hn : i < M.2.2.1) (hl' : (i, Value.int x) :: lv.filter (fun q => !(q.1 == i) && !(q.1 + 1 == i && q.2.category == 2)) = lv') (k : Wp E M R Q mc ms nc ns (pc + 3) lv' st S ad V) : Wp E M R Q mc ms nc ns pc lv st S ad V := fun p l e s m args below meth c H locs A ls hC hG hl => lv_iinc hC.1 hC.2.1 hdg hl hq hv hn hl' (fun ls hl => k p l e s m args below meth c H locs A ls hC hG hl)
theorem Wp_iadd {x y : Int32} (hdg : decode M.2.1 pc = .ok (.iadd, 1)) {z : Int32} (hz : x + y = z) (k : Wp E M R Q mc ms nc ns (pc + 1) lv (.int z :: st) S ad V) : Wp E M R Q mc ms nc ns pc lv (.int y :: .int x :: st) S ad V := fun p l e s m args below meth c H locs A ls hC hG hl => lv_iadd hC.1 hC.2.1 hdg (hz.symm ▸ (k p l e s m args below meth c H locs A ls hC hG hl))
theorem Wp_isub {x y : Int32} (hdg : decode M.2.1 pc = .ok (.isub, 1)) {z : Int32} (hz : x - y = z) (k : Wp E M R Q mc ms nc ns (pc + 1) lv (.int z :: st) S ad V) : Wp E M R Q mc ms nc ns pc lv (.int y :: .int x :: st) S ad V := fun p l e s m args below meth c H locs A ls hC hG hl => lv_isub hC.1 hC.2.1 hdg (hz.symm ▸ (k p l e s m args below meth c H locs A ls hC hG hl))
theorem Wp_imul {x y : Int32} (hdg : decode M.2.1 pc = .ok (.imul, 1)) {z : Int32} (hz : x * y = z) (k : Wp E M R Q mc ms nc ns (pc + 1) lv (.int z :: st) S ad V) : Wp E M R Q mc ms nc ns pc lv (.int y :: .int x :: st) S ad V := fun p l e s m args below meth c H locs A ls hC hG hl => lv_imul hC.1 hC.2.1 hdg (hz.symm ▸ (k p l e s m args below meth c H locs A ls hC hG hl))
theorem Wp_iand {x y : Int32} (hdg : decode M.2.1 pc = .ok (.iand, 1)) {z : Int32} (hz : x &&& y = z) (k : Wp E M R Q mc ms nc ns (pc + 1) lv (.int z :: st) S ad V) : Wp E M R Q mc ms nc ns pc lv (.int y :: .int x :: st) S ad V := fun p l e s m args below meth c H locs A ls hC hG hl => lv_iand hC.1 hC.2.1 hdg (hz.symm ▸ (k p l e s m args below meth c H locs A ls hC hG hl))
theorem Wp_ior {x y : Int32} (hdg : decode M.2.1 pc = .ok (.ior, 1)) {z : Int32} (hz : x ||| y = z) (k : Wp E M R Q mc ms nc ns (pc + 1) lv (.int z :: st) S ad V) : Wp E M R Q mc ms nc ns pc lv (.int y :: .int x :: st) S ad V := fun p l e s m args below meth c H locs A ls hC hG hl => lv_ior hC.1 hC.2.1 hdg (hz.symm ▸ (k p l e s m args below meth c H locs A ls hC hG hl))
theorem Wp_ishl {x y : Int32} (hdg : decode M.2.1 pc = .ok (.ishl, 1)) {z : Int32} (hz : x <<< (y &&& 31) = z) (k : Wp E M R Q mc ms nc ns (pc + 1) lv (.int z :: st) S ad V) : Wp E M R Q mc ms nc ns pc lv (.int y :: .int x :: st) S ad V := fun p l e s m args below meth c H locs A ls hC hG hl => lv_ishl hC.1 hC.2.1 hdg (hz.symm ▸ (k p l e s m args below meth c H locs A ls hC hG hl))
theorem Wp_ishr {x y : Int32} (hdg : decode M.2.1 pc = .ok (.ishr, 1)) {z : Int32} (hz : x >>> (y &&& 31) = z) (k : Wp E M R Q mc ms nc ns (pc + 1) lv (.int z :: st) S ad V) : Wp E M R Q mc ms nc ns pc lv (.int y :: .int x :: st) S ad V := fun p l e s m args below meth c H locs A ls hC hG hl => lv_ishr hC.1 hC.2.1 hdg (hz.symm ▸ (k p l e s m args below meth c H locs A ls hC hG hl))
theorem Wp_irem {x y : Int32} (hdg : decode M.2.1 pc = .ok (.irem, 1)) {z : Int32} (hne : ¬ y = 0) (hz : x - x / y * y = z) (k : Wp E M R Q mc ms nc ns (pc + 1) lv (.int z :: st) S ad V) : Wp E M R Q mc ms nc ns pc lv (.int y :: .int x :: st) S ad V := fun p l e s m args below meth c H locs A ls hC hG hl => lv_irem hC.1 hC.2.1 hdg hne (hz.symm ▸ (k p l e s m args below meth c H locs A ls hC hG hl))
theorem Wp_i2l {x : Int32} {v : Int64} (hdg : decode M.2.1 pc = .ok (.i2l, 1)) (hv : x.toInt64 = v) (k : Wp E M R Q mc ms nc ns (pc + 1) lv (.long v :: st) S ad V) : Wp E M R Q mc ms nc ns pc lv (.int x :: st) S ad V := fun p l e s m args below meth c H locs A ls hC hG hl => lv_i2l hC.1 hC.2.1 hdg hv (k p l e s m args below meth c H locs A ls hC hG hl)
theorem Wp_dup {va : Value} (hdg : decode M.2.1 pc = .ok (.dup, 1)) (hva : va.category = 1) (k : Wp E M R Q mc ms nc ns (pc + 1) lv (va :: va :: st) S ad V) : Wp E M R Q mc ms nc ns pc lv (va :: st) S ad V := fun p l e s m args below meth c H locs A ls hC hG hl => lv_dup hC.1 hC.2.1 hdg hva (k p l e s m args below meth c H locs A ls hC hG hl)
theorem Wp_pop {va : Value} (hdg : decode M.2.1 pc = .ok (.pop, 1)) (hva : va.category = 1) (k : Wp E M R Q mc ms nc ns (pc + 1) lv st S ad V) : Wp E M R Q mc ms nc ns pc lv (va :: st) S ad V := fun p l e s m args below meth c H locs A ls hC hG hl => lv_pop hC.1 hC.2.1 hdg hva (k p l e s m args below meth c H locs A ls hC hG hl)
theorem Wp_dup2 {va vb : Value} (hdg : decode M.2.1 pc = .ok (.dup2, 1)) (hva : va.category = 1) (hvb : vb.category = 1) (k : Wp E M R Q mc ms nc ns (pc + 1) lv (va :: vb :: va :: vb :: st) S ad V) : Wp E M R Q mc ms nc ns pc lv (va :: vb :: st) S ad V := fun p l e s m args below meth c H locs A ls hC hG hl => lv_dup2_11 hC.1 hC.2.1 hdg hva hvb (k p l e s m args below meth c H locs A ls hC hG hl)
theorem Wp_lcmp {x y : Int64} (hdg : decode M.2.1 pc = .ok (.lcmp, 1))  (k : Wp E M R Q mc ms nc ns (pc + 1) lv (.int (lg_cmp x y) :: st) S ad V) : Wp E M R Q mc ms nc ns pc lv (.long y :: .long x :: st) S ad V := fun p l e s m args below meth c H locs A ls hC hG hl => W.lcmp hC.1 hC.2.1 hdg (k p l e s m args below meth c H locs A ls hC hG hl)
theorem Wp_ldc2 {idx : Nat} {v : Int64} (hw : Cond.constantLong M.1.cls idx v ∈ w_T) (hdg : decode M.2.1 pc = .ok (.ldc2_w idx, 3)) (k : Wp E M R Q mc ms nc ns (pc + 3) lv (.long v :: st) S ad V) : Wp E M R Q mc ms nc ns pc lv st S ad V := fun p l e s m args below meth c H locs A ls hC hG hl => lv_ldc2 hC.1 hC.2.1 hC.2.2.2.1 (hC.2.2.2.2.1 _ hw) hdg (k p l e s m args below meth c H locs A ls hC hG hl)
theorem Wp_icmp_eq {x y : Int32} {off : Int} {tgt : Nat} (hdg : decode M.2.1 pc = .ok (.if_icmp .eq off, 3)) (ht : (pc : Int) + off = (tgt : Int)) {a b : Int} (ha : x.toInt = a) (hb : y.toInt = b) (kt : a = b → Wp E M R Q mc ms nc ns tgt lv st S ad V) (kf : ¬ a = b → Wp E M R Q mc ms nc ns (pc + 3) lv st S ad V) : Wp E M R Q mc ms nc ns pc lv (.int y :: .int x :: st) S ad V := fun p l e s m args below meth c H locs A ls hC hG hl => lv_icmp_eq hC.1 hC.2.1 hdg ht (fun h => kt (by rw [← ha, ← hb, h]) p l e s m args below meth c H locs A ls hC hG hl) (fun h => kf (fun q => h (Int32.toInt_inj.mp (by rw [ha, hb]; exact q))) p l e s m args below meth c H locs A ls hC hG hl)
theorem Wp_if_eq {x : Int32} {off : Int} {tgt : Nat} (hdg : decode M.2.1 pc = .ok (.ifCond .eq off, 3)) (ht : (pc : Int) + off = (tgt : Int)) {a : Int} (ha : x.toInt = a) (kt : a = 0 → Wp E M R Q mc ms nc ns tgt lv st S ad V) (kf : ¬ a = 0 → Wp E M R Q mc ms nc ns (pc + 3) lv st S ad V) : Wp E M R Q mc ms nc ns pc lv (.int x :: st) S ad V := fun p l e s m args below meth c H locs A ls hC hG hl => lv_if_eq hC.1 hC.2.1 hdg ht (fun h => kt (by rw [← ha, h]; rfl) p l e s m args below meth c H locs A ls hC hG hl) (fun h => kf (fun q => h (Int32.toInt_inj.mp (by rw [ha]; exact q))) p l e s m args below meth c H locs A ls hC hG hl)
theorem Wp_icmp_ne {x y : Int32} {off : Int} {tgt : Nat} (hdg : decode M.2.1 pc = .ok (.if_icmp .ne off, 3)) (ht : (pc : Int) + off = (tgt : Int)) {a b : Int} (ha : x.toInt = a) (hb : y.toInt = b) (kt : ¬ a = b → Wp E M R Q mc ms nc ns tgt lv st S ad V) (kf : a = b → Wp E M R Q mc ms nc ns (pc + 3) lv st S ad V) : Wp E M R Q mc ms nc ns pc lv (.int y :: .int x :: st) S ad V := fun p l e s m args below meth c H locs A ls hC hG hl => lv_icmp_ne hC.1 hC.2.1 hdg ht (fun h => kt (fun q => h (Int32.toInt_inj.mp (by rw [ha, hb]; exact q))) p l e s m args below meth c H locs A ls hC hG hl) (fun h => kf (by rw [← ha, ← hb, h]) p l e s m args below meth c H locs A ls hC hG hl)
theorem Wp_if_ne {x : Int32} {off : Int} {tgt : Nat} (hdg : decode M.2.1 pc = .ok (.ifCond .ne off, 3)) (ht : (pc : Int) + off = (tgt : Int)) {a : Int} (ha : x.toInt = a) (kt : ¬ a = 0 → Wp E M R Q mc ms nc ns tgt lv st S ad V) (kf : a = 0 → Wp E M R Q mc ms nc ns (pc + 3) lv st S ad V) : Wp E M R Q mc ms nc ns pc lv (.int x :: st) S ad V := fun p l e s m args below meth c H locs A ls hC hG hl => lv_if_ne hC.1 hC.2.1 hdg ht (fun h => kt (fun q => h (Int32.toInt_inj.mp (by rw [ha]; exact q))) p l e s m args below meth c H locs A ls hC hG hl) (fun h => kf (by rw [← ha, h]; rfl) p l e s m args below meth c H locs A ls hC hG hl)
theorem Wp_icmp_lt {x y : Int32} {off : Int} {tgt : Nat} (hdg : decode M.2.1 pc = .ok (.if_icmp .lt off, 3)) (ht : (pc : Int) + off = (tgt : Int)) {a b : Int} (ha : x.toInt = a) (hb : y.toInt = b) (kt : a < b → Wp E M R Q mc ms nc ns tgt lv st S ad V) (kf : ¬ a < b → Wp E M R Q mc ms nc ns (pc + 3) lv st S ad V) : Wp E M R Q mc ms nc ns pc lv (.int y :: .int x :: st) S ad V := fun p l e s m args below meth c H locs A ls hC hG hl => lv_icmp_lt hC.1 hC.2.1 hdg ht (fun h => kt (by rw [← ha, ← hb]; exact Int32.lt_iff_toInt_lt.mp h) p l e s m args below meth c H locs A ls hC hG hl) (fun h => kf (by rw [← ha, ← hb]; exact fun q => h (Int32.lt_iff_toInt_lt.mpr q)) p l e s m args below meth c H locs A ls hC hG hl)
theorem Wp_if_lt {x : Int32} {off : Int} {tgt : Nat} (hdg : decode M.2.1 pc = .ok (.ifCond .lt off, 3)) (ht : (pc : Int) + off = (tgt : Int)) {a : Int} (ha : x.toInt = a) (kt : a < 0 → Wp E M R Q mc ms nc ns tgt lv st S ad V) (kf : ¬ a < 0 → Wp E M R Q mc ms nc ns (pc + 3) lv st S ad V) : Wp E M R Q mc ms nc ns pc lv (.int x :: st) S ad V := fun p l e s m args below meth c H locs A ls hC hG hl => lv_if_lt hC.1 hC.2.1 hdg ht (fun h => kt (by rw [← ha]; exact Int32.lt_iff_toInt_lt.mp h) p l e s m args below meth c H locs A ls hC hG hl) (fun h => kf (by rw [← ha]; exact fun q => h (Int32.lt_iff_toInt_lt.mpr q)) p l e s m args below meth c H locs A ls hC hG hl)
theorem Wp_icmp_ge {x y : Int32} {off : Int} {tgt : Nat} (hdg : decode M.2.1 pc = .ok (.if_icmp .ge off, 3)) (ht : (pc : Int) + off = (tgt : Int)) {a b : Int} (ha : x.toInt = a) (hb : y.toInt = b) (kt : b ≤ a → Wp E M R Q mc ms nc ns tgt lv st S ad V) (kf : ¬ b ≤ a → Wp E M R Q mc ms nc ns (pc + 3) lv st S ad V) : Wp E M R Q mc ms nc ns pc lv (.int y :: .int x :: st) S ad V := fun p l e s m args below meth c H locs A ls hC hG hl => lv_icmp_ge hC.1 hC.2.1 hdg ht (fun h => kt (by rw [← ha, ← hb]; exact Int32.le_iff_toInt_le.mp h) p l e s m args below meth c H locs A ls hC hG hl) (fun h => kf (by rw [← ha, ← hb]; exact fun q => h (Int32.le_iff_toInt_le.mpr q)) p l e s m args below meth c H locs A ls hC hG hl)
theorem Wp_if_ge {x : Int32} {off : Int} {tgt : Nat} (hdg : decode M.2.1 pc = .ok (.ifCond .ge off, 3)) (ht : (pc : Int) + off = (tgt : Int)) {a : Int} (ha : x.toInt = a) (kt : 0 ≤ a → Wp E M R Q mc ms nc ns tgt lv st S ad V) (kf : ¬ 0 ≤ a → Wp E M R Q mc ms nc ns (pc + 3) lv st S ad V) : Wp E M R Q mc ms nc ns pc lv (.int x :: st) S ad V := fun p l e s m args below meth c H locs A ls hC hG hl => lv_if_ge hC.1 hC.2.1 hdg ht (fun h => kt (by rw [← ha]; exact Int32.le_iff_toInt_le.mp h) p l e s m args below meth c H locs A ls hC hG hl) (fun h => kf (by rw [← ha]; exact fun q => h (Int32.le_iff_toInt_le.mpr q)) p l e s m args below meth c H locs A ls hC hG hl)
theorem Wp_icmp_gt {x y : Int32} {off : Int} {tgt : Nat} (hdg : decode M.2.1 pc = .ok (.if_icmp .gt off, 3)) (ht : (pc : Int) + off = (tgt : Int)) {a b : Int} (ha : x.toInt = a) (hb : y.toInt = b) (kt : b < a → Wp E M R Q mc ms nc ns tgt lv st S ad V) (kf : ¬ b < a → Wp E M R Q mc ms nc ns (pc + 3) lv st S ad V) : Wp E M R Q mc ms nc ns pc lv (.int y :: .int x :: st) S ad V := fun p l e s m args below meth c H locs A ls hC hG hl => lv_icmp_gt hC.1 hC.2.1 hdg ht (fun h => kt (by rw [← ha, ← hb]; exact Int32.lt_iff_toInt_lt.mp h) p l e s m args below meth c H locs A ls hC hG hl) (fun h => kf (by rw [← ha, ← hb]; exact fun q => h (Int32.lt_iff_toInt_lt.mpr q)) p l e s m args below meth c H locs A ls hC hG hl)
theorem Wp_if_gt {x : Int32} {off : Int} {tgt : Nat} (hdg : decode M.2.1 pc = .ok (.ifCond .gt off, 3)) (ht : (pc : Int) + off = (tgt : Int)) {a : Int} (ha : x.toInt = a) (kt : 0 < a → Wp E M R Q mc ms nc ns tgt lv st S ad V) (kf : ¬ 0 < a → Wp E M R Q mc ms nc ns (pc + 3) lv st S ad V) : Wp E M R Q mc ms nc ns pc lv (.int x :: st) S ad V := fun p l e s m args below meth c H locs A ls hC hG hl => lv_if_gt hC.1 hC.2.1 hdg ht (fun h => kt (by rw [← ha]; exact Int32.lt_iff_toInt_lt.mp h) p l e s m args below meth c H locs A ls hC hG hl) (fun h => kf (by rw [← ha]; exact fun q => h (Int32.lt_iff_toInt_lt.mpr q)) p l e s m args below meth c H locs A ls hC hG hl)
theorem Wp_icmp_le {x y : Int32} {off : Int} {tgt : Nat} (hdg : decode M.2.1 pc = .ok (.if_icmp .le off, 3)) (ht : (pc : Int) + off = (tgt : Int)) {a b : Int} (ha : x.toInt = a) (hb : y.toInt = b) (kt : a ≤ b → Wp E M R Q mc ms nc ns tgt lv st S ad V) (kf : ¬ a ≤ b → Wp E M R Q mc ms nc ns (pc + 3) lv st S ad V) : Wp E M R Q mc ms nc ns pc lv (.int y :: .int x :: st) S ad V := fun p l e s m args below meth c H locs A ls hC hG hl => lv_icmp_le hC.1 hC.2.1 hdg ht (fun h => kt (by rw [← ha, ← hb]; exact Int32.le_iff_toInt_le.mp h) p l e s m args below meth c H locs A ls hC hG hl) (fun h => kf (by rw [← ha, ← hb]; exact fun q => h (Int32.le_iff_toInt_le.mpr q)) p l e s m args below meth c H locs A ls hC hG hl)
theorem Wp_if_le {x : Int32} {off : Int} {tgt : Nat} (hdg : decode M.2.1 pc = .ok (.ifCond .le off, 3)) (ht : (pc : Int) + off = (tgt : Int)) {a : Int} (ha : x.toInt = a) (kt : a ≤ 0 → Wp E M R Q mc ms nc ns tgt lv st S ad V) (kf : ¬ a ≤ 0 → Wp E M R Q mc ms nc ns (pc + 3) lv st S ad V) : Wp E M R Q mc ms nc ns pc lv (.int x :: st) S ad V := fun p l e s m args below meth c H locs A ls hC hG hl => lv_if_le hC.1 hC.2.1 hdg ht (fun h => kt (by rw [← ha]; exact Int32.le_iff_toInt_le.mp h) p l e s m args below meth c H locs A ls hC hG hl) (fun h => kf (by rw [← ha]; exact fun q => h (Int32.le_iff_toInt_le.mpr q)) p l e s m args below meth c H locs A ls hC hG hl)
theorem Wp_ifeq_b {b : Bool} {off : Int} {tgt : Nat} (hdg : decode M.2.1 pc = .ok (.ifCond .eq off, 3)) (ht : (pc : Int) + off = (tgt : Int)) (kt : b = false → Wp E M R Q mc ms nc ns tgt lv st S ad V) (kf : b = true → Wp E M R Q mc ms nc ns (pc + 3) lv st S ad V) : Wp E M R Q mc ms nc ns pc lv (.int (bI b) :: st) S ad V := fun p l e s m args below meth c H locs A ls hC hG hl => lv_if_eq hC.1 hC.2.1 hdg ht (fun h => kt (bI_0.mp h) p l e s m args below meth c H locs A ls hC hG hl) (fun h => kf (by cases b with | true => rfl | false => exact absurd rfl h) p l e s m args below meth c H locs A ls hC hG hl)
theorem Wp_ifne_b {b : Bool} {off : Int} {tgt : Nat} (hdg : decode M.2.1 pc = .ok (.ifCond .ne off, 3)) (ht : (pc : Int) + off = (tgt : Int)) (kt : b = true → Wp E M R Q mc ms nc ns tgt lv st S ad V) (kf : b = false → Wp E M R Q mc ms nc ns (pc + 3) lv st S ad V) : Wp E M R Q mc ms nc ns pc lv (.int (bI b) :: st) S ad V := fun p l e s m args below meth c H locs A ls hC hG hl => lv_if_ne hC.1 hC.2.1 hdg ht (fun h => kt (by cases b with | true => rfl | false => exact absurd rfl h) p l e s m args below meth c H locs A ls hC hG hl) (fun h => kf (bI_0.mp h) p l e s m args below meth c H locs A ls hC hG hl)
theorem Wp_goto {off : Int} {tgt : Nat} (hdg : decode M.2.1 pc = .ok (.goto off, 3)) (ht : (pc : Int) + off = (tgt : Int)) (k : Wp E M R Q mc ms nc ns tgt lv st S ad V) : Wp E M R Q mc ms nc ns pc lv st S ad V := fun p l e s m args below meth c H locs A ls hC hG hl => lv_goto hC.1 hC.2.1 hdg ht (k p l e s m args below meth c H locs A ls hC hG hl)
theorem Wp_tableIn {dflt lo hi : Int} {offs : Array Int} {len : Nat} {x : Int32} {off : Int} {tgt : Nat} (hdg : decode M.2.1 pc = .ok (.tableswitch dflt lo hi offs, len)) {a : Int} (ha : x.toInt = a) (h1 : ¬ a < lo) (h2 : ¬ hi < a) (ho : offs[(a - lo).toNat]? = some off) (ht : (pc : Int) + off = (tgt : Int)) (k : Wp E M R Q mc ms nc ns tgt lv st S ad V) : Wp E M R Q mc ms nc ns pc lv (.int x :: st) S ad V := fun p l e s m args below meth c H locs A ls hC hG hl => lv_tableIn hC.1 hC.2.1 hdg (ha.symm ▸ h1) (ha.symm ▸ h2) (ha.symm ▸ ho) ht (k p l e s m args below meth c H locs A ls hC hG hl)
theorem Wp_tableOut {dflt lo hi : Int} {offs : Array Int} {len : Nat} {x : Int32} {tgt : Nat} (hdg : decode M.2.1 pc = .ok (.tableswitch dflt lo hi offs, len)) {a : Int} (ha : x.toInt = a) (h : a < lo ∨ hi < a) (ht : (pc : Int) + dflt = (tgt : Int)) (k : Wp E M R Q mc ms nc ns tgt lv st S ad V) : Wp E M R Q mc ms nc ns pc lv (.int x :: st) S ad V := fun p l e s m args below meth c H locs A ls hC hG hl => lv_tableOut hC.1 hC.2.1 hdg (ha.symm ▸ h) ht (k p l e s m args below meth c H locs A ls hC hG hl)
theorem Wp_lookup {dflt : Int} {ps : Array (Int × Int)} {len : Nat} {x : Int32} {off : Int} {tgt : Nat} (hdg : decode M.2.1 pc = .ok (.lookupswitch dflt ps, len)) (hp : (ps.toList.zip (ps.toList.drop 1)).all (fun (a, next) => a.1 < next.1) = true) {a : Int} (ha : x.toInt = a) (ho : Op.lookupswitch.offset ps.toList dflt a = off) (ht : (pc : Int) + off = (tgt : Int)) (k : Wp E M R Q mc ms nc ns tgt lv st S ad V) : Wp E M R Q mc ms nc ns pc lv (.int x :: st) S ad V := fun p l e s m args below meth c H locs A ls hC hG hl => lv_lookup hC.1 hC.2.1 hdg hp (ha.symm ▸ ho) ht (k p l e s m args below meth c H locs A ls hC hG hl)
theorem Wp_get {idx ci i kk : Nat} {ty : FieldType} {f : Bool} {sl : List (Option (Option Nat))} {x : Int32} (hf : w_F M.1.cls idx ci kk ty f) (hS : S[i]? = some (.inl (ci, sl))) (hk : sl[kk]? = some none) (he : V i kk = x) (hdg : decode M.2.1 pc = .ok (.getfield idx, 3)) (k : Wp E M R Q mc ms nc ns (pc + 3) lv (.int x :: st) S ad V) : Wp E M R Q mc ms nc ns pc lv (.ref (ad i) :: st) S ad V := by
  intro p l e s m args below meth c H locs A ls hC hG hl
  obtain ⟨q, ty0, h1, h2, h3, h4, h5, h6, h7, h8⟩ := hf
  subst he
  exact va_get (D := E.1) (v := .int (V i kk)) hC.1 hC.2.1 hC.2.2.2.2.1 h2 hC.2.2.2.1 hG.1 hG.2.1 i (w_ws_get hS) h1 kk h5 (hC.2.2.2.2.1 _ h6) (fun _ h => h) (w_fs_get hk) hdg (k p l e s m args below meth c H locs A ls hC hG hl)
theorem Wp_getr {idx ci i kk j : Nat} {ty : FieldType} {f : Bool} {sl : List (Option (Option Nat))} (hf : w_F M.1.cls idx ci kk ty f) (hS : S[i]? = some (.inl (ci, sl))) (hk : sl[kk]? = some (some (some j))) (hdg : decode M.2.1 pc = .ok (.getfield idx, 3)) (k : Wp E M R Q mc ms nc ns (pc + 3) lv (.ref (ad j) :: st) S ad V) : Wp E M R Q mc ms nc ns pc lv (.ref (ad i) :: st) S ad V := by
  intro p l e s m args below meth c H locs A ls hC hG hl
  obtain ⟨q, ty0, h1, h2, h3, h4, h5, h6, h7, h8⟩ := hf
  exact va_get (D := E.1) (v := .ref (ad j)) hC.1 hC.2.1 hC.2.2.2.2.1 h2 hC.2.2.2.1 hG.1 hG.2.1 i (w_ws_get hS) h1 kk h5 (hC.2.2.2.2.1 _ h6) (fun _ h => h) (w_fs_get hk) hdg (k p l e s m args below meth c H locs A ls hC hG hl)
theorem Wp_put {idx ci i kk : Nat} {ty : FieldType} {sl : List (Option (Option Nat))} {x : Int32} (hf : w_F M.1.cls idx ci kk ty false) (hS : S[i]? = some (.inl (ci, sl))) (hk : sl[kk]? = some none) (hn : narrow ty (.int x) = .int x) (hfit : fits ty (.int x) = true) (hdg : decode M.2.1 pc = .ok (.putfield idx, 3)) (k : Wp E M R Q mc ms nc ns (pc + 3) lv st S ad (up2 V i kk x)) : Wp E M R Q mc ms nc ns pc lv (.int x :: .ref (ad i) :: st) S ad V := by
  intro p l e s m args below meth c H locs A ls hC hG hl
  obtain ⟨q, ty0, h1, h2, h3, h4, h5, h6, h7, h8⟩ := hf
  subst h8
  refine va_put (D := E.1) (v := .int x) (ty := ty0 kk) hC.1 hC.2.1 hC.2.2.2.2.1 h2 ty0 h3 h4 hC.2.2.2.1 hG.1 hG.2.1 hG.2.2.1 hG.2.2.2.1 i (w_ws_get hS) h1 kk h5 (hC.2.2.2.2.1 _ h6) (fun _ h => h) h7 (h3 kk h5) hn hfit (by rw [w_fs_len]; exact (List.getElem?_eq_some_iff.mp hk).1) hdg (fun H1 locs1 hP hD hS1 => ?_)
  have e1 : (w_ws E.2 S ad V).set i (ad i, .inr (ci, (w_fs ad (V i) sl).set kk (.int x))) = w_ws E.2 S ad (up2 V i kk x) := by
    rw [w_ws_set (V := V) (V' := up2 V i kk x) hS (fun j hj => by simp [up2, hj])]
    rw [← w_fs_set x hk]
    simp [w_cell, up2]
  rw [e1] at hP hD
  exact k p l e s m args below meth c H1 locs1 A ls hC ⟨hG.1, hP, hD, hS1, hG.2.2.2.2⟩ hl
theorem Wp_ild {i n N : Nat} {x y : Int32} (hS : S[i]? = some (.inr (.inl (false, N)))) (hx : x = nI n) (hn : n < N) (hN : N < 2 ^ 31) (he : V i n = y) (hdg : decode M.2.1 pc = .ok (.iaload, 1)) (k : Wp E M R Q mc ms nc ns (pc + 1) lv (.int y :: st) S ad V) : Wp E M R Q mc ms nc ns pc lv (.int x :: .ref (ad i) :: st) S ad V := by
  intro p l e s m args below meth c H locs A ls hC hG hl
  subst hx
  subst he
  have h := k p l e s m args below meth c H locs A ls hC hG hl
  rw [← nI_clamp (n := n) (by omega)] at h
  exact va_iald hC.1 hC.2.1 hG.1 hG.2.1 i 0 (w_ws_get hS) rfl (vp_in_nI hn hN) hdg h
theorem Wp_zld {i n N : Nat} {x y : Int32} (hS : S[i]? = some (.inr (.inl (true, N)))) (hx : x = nI n) (hn : n < N) (hN : N < 2 ^ 31) (he : V i n = y) (hdg : decode M.2.1 pc = .ok (.baload, 1)) (k : Wp E M R Q mc ms nc ns (pc + 1) lv (.int y :: st) S ad V) : Wp E M R Q mc ms nc ns pc lv (.int x :: .ref (ad i) :: st) S ad V := by
  intro p l e s m args below meth c H locs A ls hC hG hl
  subst hx
  subst he
  have h := k p l e s m args below meth c H locs A ls hC hG hl
  rw [← nI_clamp (n := n) (by omega)] at h
  exact va_zald hC.1 hC.2.1 hG.1 hG.2.1 i 1 (w_ws_get hS) rfl (vp_in_nI hn hN) hdg h
theorem Wp_ald {i j n N : Nat} {f : Nat → Option Nat} {x : Int32} (hS : S[i]? = some (.inr (.inr (N, f)))) (hx : x = nI n) (hn : n < N) (hN : N < 2 ^ 31) (he : f n = some j) (hdg : decode M.2.1 pc = .ok (.aaload, 1)) (k : Wp E M R Q mc ms nc ns (pc + 1) lv (.ref (ad j) :: st) S ad V) : Wp E M R Q mc ms nc ns pc lv (.int x :: .ref (ad i) :: st) S ad V := by
  intro p l e s m args below meth c H locs A ls hC hG hl
  subst hx
  refine va_aldq hC.1 hC.2.1 hG.1 hG.2.1 i 2 (w_ws_get hS) rfl (vp_in_nI hn hN) hdg ?_
  rw [nI_clamp (n := n) (by omega)]
  dsimp only
  rw [he]
  exact k p l e s m args below meth c H locs A ls hC hG hl
theorem Wp_ist {i n N : Nat} {x y : Int32} (hS : S[i]? = some (.inr (.inl (false, N)))) (hx : x = nI n) (hn : n < N) (hN : N < 2 ^ 31)  (hdg : decode M.2.1 pc = .ok (.iastore, 1)) (k : Wp E M R Q mc ms nc ns (pc + 1) lv st S ad (up2 V i n y)) : Wp E M R Q mc ms nc ns pc lv (.int y :: .int x :: .ref (ad i) :: st) S ad V := by
  intro p l e s m args below meth c H locs A ls hC hG hl
  subst hx
  refine va_iast hC.1 hC.2.1 hG.1 hG.2.1 hG.2.2.1 hG.2.2.2.1 i 0 (w_ws_get hS) rfl (vp_in_nI hn hN) hdg (fun H1 locs1 hP hD hS1 => ?_)
  rw [nI_clamp (n := n) (by omega)] at hP hD
  have e1 : (w_ws E.2 S ad V).set i (ad i, .inl (E.2 0, N, .inl (upd (V i) n y))) = w_ws E.2 S ad (up2 V i n y) := by
    rw [w_ws_set (V := V) (V' := up2 V i n y) hS (fun j hj => by simp [up2, hj])]
    simp [w_cell, up2]
  have hP : va_P E.1 vwCl (w_ws E.2 S ad (up2 V i n y)) H1 := by rw [← e1]; exact hP
  have hD : va_D A (w_ws E.2 S ad (up2 V i n y)) := by rw [← e1]; exact hD
  exact k p l e s m args below meth c H1 locs1 A ls hC ⟨hG.1, hP, hD, hS1, hG.2.2.2.2⟩ hl
theorem Wp_zst {i n N : Nat} {x y : Int32} (hS : S[i]? = some (.inr (.inl (true, N)))) (hx : x = nI n) (hn : n < N) (hN : N < 2 ^ 31) (hv : vp_nar .boolean y = y) (hdg : decode M.2.1 pc = .ok (.bastore, 1)) (k : Wp E M R Q mc ms nc ns (pc + 1) lv st S ad (up2 V i n y)) : Wp E M R Q mc ms nc ns pc lv (.int y :: .int x :: .ref (ad i) :: st) S ad V := by
  intro p l e s m args below meth c H locs A ls hC hG hl
  subst hx
  refine va_zast hC.1 hC.2.1 hG.1 hG.2.1 hG.2.2.1 hG.2.2.2.1 i 1 (w_ws_get hS) rfl (vp_in_nI hn hN) hdg (fun H1 locs1 hP hD hS1 => ?_)
  rw [nI_clamp (n := n) (by omega), hv] at hP hD
  have e1 : (w_ws E.2 S ad V).set i (ad i, .inl (E.2 1, N, .inl (upd (V i) n y))) = w_ws E.2 S ad (up2 V i n y) := by
    rw [w_ws_set (V := V) (V' := up2 V i n y) hS (fun j hj => by simp [up2, hj])]
    simp [w_cell, up2]
  have hP : va_P E.1 vwCl (w_ws E.2 S ad (up2 V i n y)) H1 := by rw [← e1]; exact hP
  have hD : va_D A (w_ws E.2 S ad (up2 V i n y)) := by rw [← e1]; exact hD
  exact k p l e s m args below meth c H1 locs1 A ls hC ⟨hG.1, hP, hD, hS1, hG.2.2.2.2⟩ hl
theorem Wp_copy {idx i j N n0 n1 : Nat} {sp dp z : Int32} (hw : Cond.methodLink M.1.cls idx arraycopyName ∈ w_T) (hS0 : S[i]? = some (.inr (.inl (false, n0)))) (hS1 : S[j]? = some (.inr (.inl (false, n1)))) (hsp : sp = 0) (hdp : dp = 0) (hz : z = nI N) (h4 : N ≤ n0) (h5 : N ≤ n1) (hN : N < 2 ^ 31) (hfr : 1 ≤ R.frames) (hlo : (st.map fun v => v.category).sum + (nativeFrameWords "java/lang/System" "arraycopy" 5 + 11) ≤ R.locals) (hdg : decode M.2.1 pc = .ok (.invokestatic idx, 3)) (k : Wp E M R Q mc ms nc ns (pc + 3) lv st S ad (up1 V j (va_cpy (V i) (V j) 0 0 N))) : Wp E M R Q mc ms nc ns pc lv (.int z :: .int dp :: .ref (ad j) :: .int sp :: .ref (ad i) :: st) S ad V := by
  intro p l e s m args below meth c H locs A ls hC hG hl
  subst hsp; subst hdp; subst hz
  have hcl : (0 : Int32).toNatClampNeg = 0 := rfl
  have hcn : (nI N).toNatClampNeg = N := nI_clamp (by omega)
  refine va_copyi (ty := .int) hC.1 hC.2.1 (hC.2.2.1.trans hl.1.symm) hC.2.2.2.1 (hC.2.2.2.2.1 _ hw) (hC.2.2.2.2.1 _ mnat_arraycopy) (hC.2.2.2.2.1 _ ms_arraycopy) (hC.2.2.2.2.1 _ mini_J10) hG.1 hG.2.1 hG.2.2.1 hG.2.2.2.1 i j 0 0 (w_ws_get hS0) (w_ws_get hS1) rfl rfl rfl (by decide) (by decide) (nI_pos hN) (by rw [hcl, hcn]; omega) (by rw [hcl, hcn]; omega) (fun _ _ => rfl) hfr hlo hdg (fun H1 locs1 hP hD hS2 => ?_)
  rw [hcl, hcn] at hP hD
  have e1 : (w_ws E.2 S ad V).set j (ad j, .inl (E.2 0, n1, .inl (va_cpy (V i) (V j) 0 0 N))) = w_ws E.2 S ad (up1 V j (va_cpy (V i) (V j) 0 0 N)) := by
    rw [w_ws_set (V := V) (V' := up1 V j (va_cpy (V i) (V j) 0 0 N)) hS1 (fun q hq => by simp [up1, hq])]
    simp [w_cell, up1]
  have hP : va_P E.1 vwCl (w_ws E.2 S ad (up1 V j (va_cpy (V i) (V j) 0 0 N))) H1 := by rw [← e1]; exact hP
  have hD : va_D A (w_ws E.2 S ad (up1 V j (va_cpy (V i) (V j) 0 0 N))) := by rw [← e1]; exact hD
  exact k p l e s m args below meth c H1 locs1 A ls hC ⟨hG.1, hP, hD, hS2, hG.2.2.2.2⟩ hl
theorem Wp_min {idx : Nat} {x y z : Int32} (hw : Cond.methodLink M.1.cls idx Lib.Math.min.name ∈ w_T) (hz : (if y < x then y else x) = z) (hfr : 1 ≤ R.frames) (hlo : (st.map fun v => v.category).sum + 13 ≤ R.locals) (hc : nc ≤ R.cells) (hs : ns ≤ R.slots) (hdg : decode M.2.1 pc = .ok (.invokestatic idx, 3)) (k : Wp E M R Q mc ms nc ns (pc + 3) lv (.int z :: st) S ad V) : Wp E M R Q mc ms nc ns pc lv (.int y :: .int x :: st) S ad V := by
  intro p l e s m args below meth c H locs A ls hC hG hl
  subst hz
  exact va_mmin hC.1 hC.2.1 (hC.2.2.1.trans hl.1.symm) hC.2.2.2.1 (hC.2.2.2.2.1 _ hw) (hC.2.2.2.2.1 _ w_min_s) (hC.2.2.2.2.1 _ mini_J9) (hC.2.2.2.2.1 _ w_min_c) hfr hlo hc hs hdg (k p l e s m args below meth c H locs A ls hC hG hl)
theorem Wp_iret {v : Int32} (hr : M.2.2.2 = some .int) (hq : Q (some (.int v)) S ad V) (hc : nc ≤ mc) (hs : ns ≤ ms) (hdg : decode M.2.1 pc = .ok (.ireturn, 1)) : Wp E M R Q mc ms nc ns pc lv [.int v] S ad V := by
  intro p l e s m args below meth c H locs A ls hC hG hl
  refine W.widen hc hs ?_
  exact W.iret (hlocks := hC.2.2.2.2.2.2.1) hC.1 hC.2.1 (hC.2.2.2.2.2.1.trans hr) (fun t ht hW => ⟨⟨_, _, _, _, rfl, hq, by rw [ht]; exact hG.2.1, va_K.moved hW.alike hG.1, hG.2.2.1⟩, hG.2.2.2.1.F ht⟩) hG.2.2.2.1.2.2 hdg
theorem Wp_zret {v : Int32} {b : Bool} (hb : v = bI b) (hr : M.2.2.2 = some .boolean) (hq : Q (some (.int (bI b))) S ad V) (hc : nc ≤ mc) (hs : ns ≤ ms) (hdg : decode M.2.1 pc = .ok (.ireturn, 1)) : Wp E M R Q mc ms nc ns pc lv [.int v] S ad V := by
  intro p l e s m args below meth c H locs A ls hC hG hl
  subst hb
  refine W.widen hc hs ?_
  exact W.zret (ty := .boolean) (hlocks := hC.2.2.2.2.2.2.1) hC.1 hC.2.1 (hC.2.2.2.2.2.1.trans hr) (bI_nar b) (fun t ht hW => ⟨⟨_, _, _, _, rfl, hq, by rw [ht]; exact hG.2.1, va_K.moved hW.alike hG.1, hG.2.2.1⟩, hG.2.2.2.1.F ht⟩) hG.2.2.2.1.2.2 hdg
theorem Wp_vret (hr : M.2.2.2 = none) (hq : Q none S ad V) (hc : nc ≤ mc) (hs : ns ≤ ms) (hdg : decode M.2.1 pc = .ok (.return_, 1)) : Wp E M R Q mc ms nc ns pc lv [] S ad V := by
  intro p l e s m args below meth c H locs A ls hC hG hl
  refine W.widen hc hs ?_
  exact W.vret (hlocks := hC.2.2.2.2.2.2.1) hC.1 hC.2.1 (hC.2.2.2.2.2.1.trans hr) (fun t ht hW => ⟨⟨_, _, _, _, rfl, hq, by rw [ht]; exact hG.2.1, va_K.moved hW.alike hG.1, hG.2.2.1⟩, hG.2.2.2.1.F ht⟩) hG.2.2.2.1.2.2 hdg
variable {M' : wM} {R' : Room} {Q' : wQ} {mc' ms' : Nat} {As rest : List Value}
theorem Wp_callV {i ci idx n : Nat} {sl : List (Option (Option Nat))} (C : w_C E M' R' mc' ms' (.ref (ad i) :: As) S ad V Q') (hY : w_YV M' n) (hw : Cond.methodLink M.1.cls idx M'.1 ∈ w_T) (hn : As.length = n) (hi : S[i]? = some (.inl (ci, sl))) (hci : (vwCl[ci]?).map (fun q => q.1) = some M'.1.cls) (hRm : w_Rm M' R R' nc ns mc' ms') (hst : st = As.reverse ++ .ref (ad i) :: rest) (hcat : (rest.map fun v => v.category).sum ≤ 8) (hdg : decode M.2.1 pc = .ok (.invokevirtual idx, 3)) (kk : ∀ (v : Option Value) (S' : List wK) (ad' : Nat → Nat) (V' : wV), Q' v S' ad' V' → Wp E M R Q mc ms (nc + mc') (ns + ms') (pc + 3) lv (v.toList ++ rest) S' ad' V') : Wp E M R Q mc ms nc ns pc lv st S ad V := by
  intro p l e s m args below meth c H locs A ls hC hG hl
  obtain ⟨r1, r2, r3, r4, r5, r6⟩ := hRm
  obtain ⟨y1, y2, y3, y4, y5⟩ := hY
  obtain ⟨q, hq, hqc⟩ : ∃ q : vw_C, vwCl[ci]? = some q ∧ q.1 = M'.1.cls := by
    cases h : vwCl[ci]? with
    | none => rw [h] at hci; cases hci
    | some q => rw [h] at hci; exact ⟨q, rfl, Option.some.inj hci⟩
  have hrecv := va_recv hG.1 hG.2.1 hq (w_ws_get (ca := E.2) (ad := ad) (V := V) hi)
  rw [hqc] at hrecv
  refine w_after hG (va_runV (As := As) (rest := rest) ⟨hC.1, hC.2.1, hC.2.2.1, hC.2.2.2.1, hC.2.2.2.2.1⟩ (C l H.size) ⟨callB_of n hC.2.2.2.2.1 (w_goodT y1) rfl r1 r2 (hC.2.2.2.2.1 _ y4) (hC.2.2.2.2.1 _ hw) y5 ⟨r3, r4⟩, hC.2.2.2.2.1 _ y2, hC.2.2.2.2.1 _ y3⟩ ⟨w_blind, hrecv, fun U hU hW => ⟨rfl, by rw [hU], by rw [hU]; exact hG.2.1, va_K.moved hW.alike hG.1, hG.2.2.1.weaken (fun _ _ _ _ => trivial), hG.2.2.2.2.2.warm hW⟩⟩ rfl hn hl.1 hst (lv_room hcat) hdg ⟨r5, r6⟩) (fun v S' ad' V' H1 locs1 hq hG1 => ?_)
  exact kk v S' ad' V' hq p l e s m args below meth c H1 locs1 A ls hC hG1 hl
theorem Wp_callS {idx n : Nat} (C : w_C E M' R' mc' ms' As S ad V Q') (hY : w_YS M' n) (hw : Cond.methodLink M.1.cls idx M'.1 ∈ w_T) (hn : As.length = n) (hRm : w_Rm M' R R' nc ns mc' ms') (hst : st = As.reverse ++ rest) (hcat : (rest.map fun v => v.category).sum ≤ 8) (hdg : decode M.2.1 pc = .ok (.invokestatic idx, 3)) (kk : ∀ (v : Option Value) (S' : List wK) (ad' : Nat → Nat) (V' : wV), Q' v S' ad' V' → Wp E M R Q mc ms (nc + mc') (ns + ms') (pc + 3) lv (v.toList ++ rest) S' ad' V') : Wp E M R Q mc ms nc ns pc lv st S ad V := by
  intro p l e s m args below meth c H locs A ls hC hG hl
  obtain ⟨r1, r2, r3, r4, r5, r6⟩ := hRm
  obtain ⟨y1, y2, y4, y5⟩ := hY
  refine w_after hG (va_runS (As := As) (rest := rest) ⟨hC.1, hC.2.1, hC.2.2.1, hC.2.2.2.1, hC.2.2.2.2.1⟩ (C l H.size) ⟨callB_of n hC.2.2.2.2.1 (w_goodT y1) rfl r1 r2 (hC.2.2.2.2.1 _ y4) (hC.2.2.2.2.1 _ hw) y5 ⟨r3, r4⟩, hC.2.2.2.2.1 _ y2⟩ ⟨w_blind, fun U hU hW => ⟨rfl, by rw [hU], by rw [hU]; exact hG.2.1, va_K.moved hW.alike hG.1, hG.2.2.1.weaken (fun _ _ _ _ => trivial), hG.2.2.2.2.2.warm hW⟩⟩ rfl hn hl.1 hst (lv_room hcat) hdg ⟨r5, r6⟩) (fun v S' ad' V' H1 locs1 hq hG1 => ?_)
  exact kk v S' ad' V' hq p l e s m args below meth c H1 locs1 A ls hC hG1 hl
theorem Wp_callVi {i ci idx n d d' : Nat} {sl : List (Option (Option Nat))} {q : Int32 → wV → Prop} (C : w_C E M' (w_R d' 0 0) 0 0 (.ref (ad i) :: As) S ad V (w_i S ad q)) (hY : w_YV M' n) (hw : Cond.methodLink M.1.cls idx M'.1 ∈ w_T) (hi : S[i]? = some (.inl (ci, sl))) (hci : (vwCl[ci]?).map (fun q => q.1) = some M'.1.cls) (hdg : decode M.2.1 pc = .ok (.invokevirtual idx, 3)) (hd : d' < d) (hL : M'.2.2.1 ≤ 11) (hc : nc ≤ mc) (hs : ns ≤ ms) (hn : As.length = n) (hst : st = As.reverse ++ .ref (ad i) :: rest) (hcat : (rest.map fun v => v.category).sum ≤ 8) (kk : ∀ (r : Int32) (V' : wV), q r V' → Wp E M (w_R d mc ms) Q mc ms nc ns (pc + 3) lv (.int r :: rest) S ad V') : Wp E M (w_R d mc ms) Q mc ms nc ns pc lv st S ad V := by
  refine Wp_callV C hY hw hn hi hci (w_Rm0 hd hL hc hs) hst hcat hdg (fun v S' ad' V' hq => ?_)
  obtain ⟨rfl, rfl, r, rfl, hq⟩ := hq
  exact kk r V' hq
theorem Wp_callVv {i ci idx n d d' : Nat} {sl : List (Option (Option Nat))} {q : wV → Prop} (C : w_C E M' (w_R d' 0 0) 0 0 (.ref (ad i) :: As) S ad V (w_v S ad q)) (hY : w_YV M' n) (hw : Cond.methodLink M.1.cls idx M'.1 ∈ w_T) (hi : S[i]? = some (.inl (ci, sl))) (hci : (vwCl[ci]?).map (fun q => q.1) = some M'.1.cls) (hdg : decode M.2.1 pc = .ok (.invokevirtual idx, 3)) (hd : d' < d) (hL : M'.2.2.1 ≤ 11) (hc : nc ≤ mc) (hs : ns ≤ ms) (hn : As.length = n) (hst : st = As.reverse ++ .ref (ad i) :: rest) (hcat : (rest.map fun v => v.category).sum ≤ 8) (kk : ∀ (V' : wV), q V' → Wp E M (w_R d mc ms) Q mc ms nc ns (pc + 3) lv rest S ad V') : Wp E M (w_R d mc ms) Q mc ms nc ns pc lv st S ad V := by
  refine Wp_callV C hY hw hn hi hci (w_Rm0 hd hL hc hs) hst hcat hdg (fun v S' ad' V' hq => ?_)
  obtain ⟨rfl, rfl, rfl, hq⟩ := hq
  exact kk V' hq
theorem Wp_callVg {i ci idx n d d' : Nat} {sl : List (Option (Option Nat))} {x : Int32} (C : w_C E M' (w_R d' 0 0) 0 0 (.ref (ad i) :: As) S ad V (w_i S ad (fun r V' => r = x ∧ V' = V))) (hY : w_YV M' n) (hw : Cond.methodLink M.1.cls idx M'.1 ∈ w_T) (hi : S[i]? = some (.inl (ci, sl))) (hci : (vwCl[ci]?).map (fun q => q.1) = some M'.1.cls) (hdg : decode M.2.1 pc = .ok (.invokevirtual idx, 3)) (hd : d' < d) (hL : M'.2.2.1 ≤ 11) (hc : nc ≤ mc) (hs : ns ≤ ms) (hn : As.length = n) (hst : st = As.reverse ++ .ref (ad i) :: rest) (hcat : (rest.map fun v => v.category).sum ≤ 8) (kk : Wp E M (w_R d mc ms) Q mc ms nc ns (pc + 3) lv (.int x :: rest) S ad V) : Wp E M (w_R d mc ms) Q mc ms nc ns pc lv st S ad V := by
  refine Wp_callVi C hY hw hi hci hdg hd hL hc hs hn hst hcat (fun r V' hq => ?_)
  obtain ⟨rfl, rfl⟩ := hq
  exact kk
theorem Wp_callSi {idx n d d' : Nat} {q : Int32 → wV → Prop} (C : w_C E M' (w_R d' 0 0) 0 0 As S ad V (w_i S ad q)) (hY : w_YS M' n) (hw : Cond.methodLink M.1.cls idx M'.1 ∈ w_T) (hdg : decode M.2.1 pc = .ok (.invokestatic idx, 3)) (hd : d' < d) (hL : M'.2.2.1 ≤ 11) (hc : nc ≤ mc) (hs : ns ≤ ms) (hn : As.length = n) (hst : st = As.reverse ++ rest) (hcat : (rest.map fun v => v.category).sum ≤ 8) (kk : ∀ (r : Int32) (V' : wV), q r V' → Wp E M (w_R d mc ms) Q mc ms nc ns (pc + 3) lv (.int r :: rest) S ad V') : Wp E M (w_R d mc ms) Q mc ms nc ns pc lv st S ad V := by
  refine Wp_callS C hY hw hn (w_Rm0 hd hL hc hs) hst hcat hdg (fun v S' ad' V' hq => ?_)
  obtain ⟨rfl, rfl, r, rfl, hq⟩ := hq
  exact kk r V' hq
theorem Wp_callSv {idx n d d' : Nat} {q : wV → Prop} (C : w_C E M' (w_R d' 0 0) 0 0 As S ad V (w_v S ad q)) (hY : w_YS M' n) (hw : Cond.methodLink M.1.cls idx M'.1 ∈ w_T) (hdg : decode M.2.1 pc = .ok (.invokestatic idx, 3)) (hd : d' < d) (hL : M'.2.2.1 ≤ 11) (hc : nc ≤ mc) (hs : ns ≤ ms) (hn : As.length = n) (hst : st = As.reverse ++ rest) (hcat : (rest.map fun v => v.category).sum ≤ 8) (kk : ∀ (V' : wV), q V' → Wp E M (w_R d mc ms) Q mc ms nc ns (pc + 3) lv rest S ad V') : Wp E M (w_R d mc ms) Q mc ms nc ns pc lv st S ad V := by
  refine Wp_callS C hY hw hn (w_Rm0 hd hL hc hs) hst hcat hdg (fun v S' ad' V' hq => ?_)
  obtain ⟨rfl, rfl, rfl, hq⟩ := hq
  exact kk V' hq
theorem Wp_callSg {idx n d d' : Nat} {x : Int32} (C : w_C E M' (w_R d' 0 0) 0 0 As S ad V (w_i S ad (fun r V' => r = x ∧ V' = V))) (hY : w_YS M' n) (hw : Cond.methodLink M.1.cls idx M'.1 ∈ w_T) (hdg : decode M.2.1 pc = .ok (.invokestatic idx, 3)) (hd : d' < d) (hL : M'.2.2.1 ≤ 11) (hc : nc ≤ mc) (hs : ns ≤ ms) (hn : As.length = n) (hst : st = As.reverse ++ rest) (hcat : (rest.map fun v => v.category).sum ≤ 8) (kk : Wp E M (w_R d mc ms) Q mc ms nc ns (pc + 3) lv (.int x :: rest) S ad V) : Wp E M (w_R d mc ms) Q mc ms nc ns pc lv st S ad V := by
  refine Wp_callSi C hY hw hdg hd hL hc hs hn hst hcat (fun r V' hq => ?_)
  obtain ⟨rfl, rfl⟩ := hq
  exact kk
end WROWS
end
section
/-! the methods, by what is known of them -/
theorem w_inc1 (n : Nat) : nI n + Int32.ofInt 1 = nI (n + 1) := nI_1 n
theorem w_inck (n k : Nat) (h : k = 4) : nI n + Int32.ofInt 4 = nI (n + 4) := nI_add n 4
theorem w_dec1 {n : Nat} (h : 0 < n) : nI n + Int32.ofInt (-1) = nI (n - 1) := sb_m1 h
theorem w_ne {S : List wK} {i j : Nat} {a b : wK} (h1 : S[i]? = some a) (h2 : S[j]? = some b) (h : a ≠ b) : i ≠ j := fun q => h (by subst q; exact Option.some.inj (h1.symm.trans h2))
theorem Wp_lv {E : wE} {M : wM} {R : Room} {Q : wQ} {mc ms nc ns pc : Nat} {lv lv2 : List (Nat × Value)} {st : List Value} {S : List wK} {ad : Nat → Nat} {V : wV} (ks : List Nat) (h : lv_pick lv ks = lv2) (k : Wp E M R Q mc ms nc ns pc lv2 st S ad V) : Wp E M R Q mc ms nc ns pc lv st S ad V := fun p l e s m args below meth c H locs A ls hC hG hl => k p l e s m args below meth c H locs A ls hC hG (lv_sub hl ks h)
theorem s_l : ∀ n, n < 32 → ((nI n &&& 31).toBitVec.smod 32).toNat = n := by decide +kernel
theorem w_shl {a b : Nat} (hb : b < 32) (h : a * 2 ^ b < 2 ^ 32) : nI a <<< (nI b &&& 31) = nI (a * 2 ^ b) := pk_shlN _ b (s_l b hb) h
theorem w_shr {a b : Nat} (ha : a < 2 ^ 31) (hb : b < 32) : nI a >>> (nI b &&& 31) = nI (a / 2 ^ b) := pk_shrN ha _ b (s_l b hb)
abbrev mX8_init : wM := (yX8_init, cX8_init, 2, none)
theorem YI_X8_init : w_YI mX8_init 0 := ⟨mc_X8_init, mi_X8_init, mini_X8, rfl, rfl, by decide +kernel⟩
abbrev mX7_init : wM := (yX7_init, cX7_init, 1, none)
theorem YI_X7_init : w_YI mX7_init 0 := ⟨mc_X7_init, mi_X7_init, mini_X7, rfl, rfl, by decide +kernel⟩
abbrev mX3_init : wM := (yX3_init, cX3_init, 2, none)
theorem YI_X3_init : w_YI mX3_init 1 := ⟨mc_X3_init, mi_X3_init, mini_X3, rfl, rfl, by decide +kernel⟩
abbrev mX0_init : wM := (yX0_init, cX0_init, 1, none)
theorem YI_X0_init : w_YI mX0_init 0 := ⟨mc_X0_init, mi_X0_init, mini_X0, rfl, rfl, by decide +kernel⟩
abbrev mX0_reset : wM := (yX0_reset, cX0_reset, 2, none)
theorem YV_X0_reset : w_YV mX0_reset 0 := ⟨mc_X0_reset, mi_X0_reset, mse_X0_reset, mini_X0, by decide +kernel⟩
abbrev mX6_init : wM := (yX6_init, cX6_init, 1, none)
theorem YI_X6_init : w_YI mX6_init 0 := ⟨mc_X6_init, mi_X6_init, mini_X6, rfl, rfl, by decide +kernel⟩
abbrev mX6_begin : wM := (yX6_begin, cX6_begin, 2, none)
theorem YV_X6_begin : w_YV mX6_begin 1 := ⟨mc_X6_begin, mi_X6_begin, mse_X6_begin, mini_X6, by decide +kernel⟩
abbrev mX6_nothingSent : wM := (yX6_nothingSent, cX6_nothingSent, 1, none)
theorem YV_X6_nothingSent : w_YV mX6_nothingSent 0 := ⟨mc_X6_nothingSent, mi_X6_nothingSent, mse_X6_nothingSent, mini_X6, by decide +kernel⟩
abbrev mX2_init : wM := (yX2_init, cX2_init, 2, none)
theorem YI_X2_init : w_YI mX2_init 0 := ⟨mc_X2_init, mi_X2_init, mini_X2, rfl, rfl, by decide +kernel⟩
abbrev mX5_init : wM := (yX5_init, cX5_init, 1, none)
theorem YI_X5_init : w_YI mX5_init 0 := ⟨mc_X5_init, mi_X5_init, mini_X5, rfl, rfl, by decide +kernel⟩
abbrev mX1_init : wM := (yX1_init, cX1_init, 2, none)
theorem YI_X1_init : w_YI mX1_init 1 := ⟨mc_X1_init, mi_X1_init, mini_X1, rfl, rfl, by decide +kernel⟩
abbrev mX4_init : wM := (yX4_init, cX4_init, 1, none)
theorem YI_X4_init : w_YI mX4_init 0 := ⟨mc_X4_init, mi_X4_init, mini_X4, rfl, rfl, by decide +kernel⟩
abbrev mX8_type : wM := (yX8_type, cX8_type, 2, (some .int))
theorem YV_X8_type : w_YV mX8_type 1 := ⟨mc_X8_type, mi_X8_type, mse_X8_type, mini_X8, by decide +kernel⟩
abbrev mX8_clear : wM := (yX8_clear, cX8_clear, 2, (some .int))
theorem YV_X8_clear : w_YV mX8_clear 0 := ⟨mc_X8_clear, mi_X8_clear, mse_X8_clear, mini_X8, by decide +kernel⟩
abbrev mX8_book : wM := (yX8_book, cX8_book, 3, (some .int))
theorem YV_X8_book : w_YV mX8_book 0 := ⟨mc_X8_book, mi_X8_book, mse_X8_book, mini_X8, by decide +kernel⟩
abbrev mX3_readAll : wM := (yX3_readAll, cX3_readAll, 2, (some .int))
theorem YV_X3_readAll : w_YV mX3_readAll 0 := ⟨mc_X3_readAll, mi_X3_readAll, mse_X3_readAll, mini_X3, by decide +kernel⟩
abbrev mX7_rewind : wM := (yX7_rewind, cX7_rewind, 1, none)
theorem YV_X7_rewind : w_YV mX7_rewind 0 := ⟨mc_X7_rewind, mi_X7_rewind, mse_X7_rewind, mini_X7, by decide +kernel⟩
abbrev mX7_step : wM := (yX7_step, cX7_step, 1, none)
theorem YV_X7_step : w_YV mX7_step 0 := ⟨mc_X7_step, mi_X7_step, mse_X7_step, mini_X7, by decide +kernel⟩
abbrev mX7_isDigit : wM := (yX7_isDigit, cX7_isDigit, 1, (some .boolean))
theorem YS_X7_isDigit : w_YS mX7_isDigit 1 := ⟨mc_X7_isDigit, ms_X7_isDigit, mini_X7, by decide +kernel⟩
abbrev mX3_readItem : wM := (yX3_readItem, cX3_readItem, 2, (some .boolean))
theorem YV_X3_readItem : w_YV mX3_readItem 0 := ⟨mc_X3_readItem, mi_X3_readItem, mse_X3_readItem, mini_X3, by decide +kernel⟩
abbrev mX3_readPlaces : wM := (yX3_readPlaces, cX3_readPlaces, 2, (some .boolean))
theorem YV_X3_readPlaces : w_YV mX3_readPlaces 0 := ⟨mc_X3_readPlaces, mi_X3_readPlaces, mse_X3_readPlaces, mini_X3, by decide +kernel⟩
abbrev mX3_take : wM := (yX3_take, cX3_take, 5, (some .int))
theorem YV_X3_take : w_YV mX3_take 3 := ⟨mc_X3_take, mi_X3_take, mse_X3_take, mini_X3, by decide +kernel⟩
abbrev mX3_readFlag : wM := (yX3_readFlag, cX3_readFlag, 4, (some .boolean))
theorem YV_X3_readFlag : w_YV mX3_readFlag 0 := ⟨mc_X3_readFlag, mi_X3_readFlag, mse_X3_readFlag, mini_X3, by decide +kernel⟩
abbrev mX3_readCode : wM := (yX3_readCode, cX3_readCode, 5, (some .boolean))
theorem YV_X3_readCode : w_YV mX3_readCode 0 := ⟨mc_X3_readCode, mi_X3_readCode, mse_X3_readCode, mini_X3, by decide +kernel⟩
abbrev mX0_packed : wM := (yX0_packed, cX0_packed, 2, (some .int))
theorem YS_X0_packed : w_YS mX0_packed 2 := ⟨mc_X0_packed, ms_X0_packed, mini_X0, by decide +kernel⟩
abbrev mX0_shiftOf : wM := (yX0_shiftOf, cX0_shiftOf, 1, (some .int))
theorem YS_X0_shiftOf : w_YS mX0_shiftOf 1 := ⟨mc_X0_shiftOf, ms_X0_shiftOf, mini_X0, by decide +kernel⟩
abbrev mX0_hasCode : wM := (yX0_hasCode, cX0_hasCode, 3, (some .boolean))
theorem YV_X0_hasCode : w_YV mX0_hasCode 1 := ⟨mc_X0_hasCode, mi_X0_hasCode, mse_X0_hasCode, mini_X0, by decide +kernel⟩
abbrev mX0_add : wM := (yX0_add, cX0_add, 2, none)
theorem YV_X0_add : w_YV mX0_add 1 := ⟨mc_X0_add, mi_X0_add, mse_X0_add, mini_X0, by decide +kernel⟩
abbrev mX0_copyFrom : wM := (yX0_copyFrom, cX0_copyFrom, 2, none)
theorem YV_X0_copyFrom : w_YV mX0_copyFrom 1 := ⟨mc_X0_copyFrom, mi_X0_copyFrom, mse_X0_copyFrom, mini_X0, by decide +kernel⟩
abbrev mX8_flag : wM := (yX8_flag, cX8_flag, 3, (some .int))
theorem YV_X8_flag : w_YV mX8_flag 2 := ⟨mc_X8_flag, mi_X8_flag, mse_X8_flag, mini_X8, by decide +kernel⟩
abbrev mX8_code : wM := (yX8_code, cX8_code, 3, (some .int))
theorem YV_X8_code : w_YV mX8_code 2 := ⟨mc_X8_code, mi_X8_code, mse_X8_code, mini_X8, by decide +kernel⟩
abbrev mX0_has : wM := (yX0_has, cX0_has, 2, (some .boolean))
theorem YV_X0_has : w_YV mX0_has 1 := ⟨mc_X0_has, mi_X0_has, mse_X0_has, mini_X0, by decide +kernel⟩
abbrev mX0_lengthOf : wM := (yX0_lengthOf, cX0_lengthOf, 3, (some .int))
theorem YV_X0_lengthOf : w_YV mX0_lengthOf 1 := ⟨mc_X0_lengthOf, mi_X0_lengthOf, mse_X0_lengthOf, mini_X0, by decide +kernel⟩
abbrev mX0_letterOf : wM := (yX0_letterOf, cX0_letterOf, 4, (some .int))
theorem YV_X0_letterOf : w_YV mX0_letterOf 2 := ⟨mc_X0_letterOf, mi_X0_letterOf, mse_X0_letterOf, mini_X0, by decide +kernel⟩
abbrev mX8_sorted : wM := (yX8_sorted, cX8_sorted, 3, (some .int))
theorem YV_X8_sorted : w_YV mX8_sorted 1 := ⟨mc_X8_sorted, mi_X8_sorted, mse_X8_sorted, mini_X8, by decide +kernel⟩
abbrev mX0_rankOf : wM := (yX0_rankOf, cX0_rankOf, 4, (some .int))
theorem YV_X0_rankOf : w_YV mX0_rankOf 1 := ⟨mc_X0_rankOf, mi_X0_rankOf, mse_X0_rankOf, mini_X0, by decide +kernel⟩
abbrev mX8_first : wM := (yX8_first, cX8_first, 2, (some .int))
theorem YV_X8_first : w_YV mX8_first 1 := ⟨mc_X8_first, mi_X8_first, mse_X8_first, mini_X8, by decide +kernel⟩
abbrev mX0_firstFrom : wM := (yX0_firstFrom, cX0_firstFrom, 5, (some .int))
theorem YV_X0_firstFrom : w_YV mX0_firstFrom 1 := ⟨mc_X0_firstFrom, mi_X0_firstFrom, mse_X0_firstFrom, mini_X0, by decide +kernel⟩
abbrev mX8_puts : wM := (yX8_puts, cX8_puts, 3, (some .int))
theorem YV_X8_puts : w_YV mX8_puts 2 := ⟨mc_X8_puts, mi_X8_puts, mse_X8_puts, mini_X8, by decide +kernel⟩
abbrev mX2_remember : wM := (yX2_remember, cX2_remember, 2, none)
theorem YV_X2_remember : w_YV mX2_remember 1 := ⟨mc_X2_remember, mi_X2_remember, mse_X2_remember, mini_X2, by decide +kernel⟩
abbrev mX6_copyFrom : wM := (yX6_copyFrom, cX6_copyFrom, 2, none)
theorem YV_X6_copyFrom : w_YV mX6_copyFrom 1 := ⟨mc_X6_copyFrom, mi_X6_copyFrom, mse_X6_copyFrom, mini_X6, by decide +kernel⟩
abbrev mX6_insert : wM := (yX6_insert, cX6_insert, 4, none)
theorem YV_X6_insert : w_YV mX6_insert 2 := ⟨mc_X6_insert, mi_X6_insert, mse_X6_insert, mini_X6, by decide +kernel⟩
abbrev mX8_takes : wM := (yX8_takes, cX8_takes, 2, (some .int))
theorem YV_X8_takes : w_YV mX8_takes 1 := ⟨mc_X8_takes, mi_X8_takes, mse_X8_takes, mini_X8, by decide +kernel⟩
abbrev mX6_hasPlace : wM := (yX6_hasPlace, cX6_hasPlace, 2, (some .boolean))
theorem YV_X6_hasPlace : w_YV mX6_hasPlace 1 := ⟨mc_X6_hasPlace, mi_X6_hasPlace, mse_X6_hasPlace, mini_X6, by decide +kernel⟩
abbrev mX6_remove : wM := (yX6_remove, cX6_remove, 4, (some .int))
theorem YV_X6_remove : w_YV mX6_remove 1 := ⟨mc_X6_remove, mi_X6_remove, mse_X6_remove, mini_X6, by decide +kernel⟩
abbrev mX8_places : wM := (yX8_places, cX8_places, 3, (some .int))
theorem YV_X8_places : w_YV mX8_places 1 := ⟨mc_X8_places, mi_X8_places, mse_X8_places, mini_X8, by decide +kernel⟩
abbrev mX8_sends : wM := (yX8_sends, cX8_sends, 1, (some .int))
theorem YV_X8_sends : w_YV mX8_sends 0 := ⟨mc_X8_sends, mi_X8_sends, mse_X8_sends, mini_X8, by decide +kernel⟩
abbrev mX1_make : wM := (yX1_make, cX1_make, 4, none)
theorem YV_X1_make : w_YV mX1_make 2 := ⟨mc_X1_make, mi_X1_make, mse_X1_make, mini_X1, by decide +kernel⟩
abbrev mX1_findFewest : wM := (yX1_findFewest, cX1_findFewest, 5, (some .boolean))
theorem YV_X1_findFewest : w_YV mX1_findFewest 1 := ⟨mc_X1_findFewest, mi_X1_findFewest, mse_X1_findFewest, mini_X1, by decide +kernel⟩
abbrev mX4_begin : wM := (yX4_begin, cX4_begin, 2, none)
theorem YV_X4_begin : w_YV mX4_begin 1 := ⟨mc_X4_begin, mi_X4_begin, mse_X4_begin, mini_X4, by decide +kernel⟩
abbrev mX4_addCode : wM := (yX4_addCode, cX4_addCode, 5, (some .boolean))
theorem YV_X4_addCode : w_YV mX4_addCode 2 := ⟨mc_X4_addCode, mi_X4_addCode, mse_X4_addCode, mini_X4, by decide +kernel⟩
abbrev mX4_addThing : wM := (yX4_addThing, cX4_addThing, 2, (some .boolean))
theorem YV_X4_addThing : w_YV mX4_addThing 1 := ⟨mc_X4_addThing, mi_X4_addThing, mse_X4_addThing, mini_X4, by decide +kernel⟩
abbrev mX4_addLetter : wM := (yX4_addLetter, cX4_addLetter, 4, (some .boolean))
theorem YV_X4_addLetter : w_YV mX4_addLetter 1 := ⟨mc_X4_addLetter, mi_X4_addLetter, mse_X4_addLetter, mini_X4, by decide +kernel⟩
abbrev mX4_isThere : wM := (yX4_isThere, cX4_isThere, 3, (some .boolean))
theorem YV_X4_isThere : w_YV mX4_isThere 1 := ⟨mc_X4_isThere, mi_X4_isThere, mse_X4_isThere, mini_X4, by decide +kernel⟩
abbrev mX4_freeSubstitute : wM := (yX4_freeSubstitute, cX4_freeSubstitute, 4, (some .int))
theorem YV_X4_freeSubstitute : w_YV mX4_freeSubstitute 1 := ⟨mc_X4_freeSubstitute, mi_X4_freeSubstitute, mse_X4_freeSubstitute, mini_X4, by decide +kernel⟩
abbrev mX6_isUp : wM := (yX6_isUp, cX6_isUp, 1, (some .boolean))
theorem YV_X6_isUp : w_YV mX6_isUp 0 := ⟨mc_X6_isUp, mi_X6_isUp, mse_X6_isUp, mini_X6, by decide +kernel⟩
abbrev mX8_answers : wM := (yX8_answers, cX8_answers, 2, (some .int))
theorem YV_X8_answers : w_YV mX8_answers 1 := ⟨mc_X8_answers, mi_X8_answers, mse_X8_answers, mini_X8, by decide +kernel⟩
abbrev mX6_sendAgain : wM := (yX6_sendAgain, cX6_sendAgain, 1, (some .int))
theorem YV_X6_sendAgain : w_YV mX6_sendAgain 0 := ⟨mc_X6_sendAgain, mi_X6_sendAgain, mse_X6_sendAgain, mini_X6, by decide +kernel⟩
abbrev mX6_takeDown : wM := (yX6_takeDown, cX6_takeDown, 2, (some .int))
theorem YV_X6_takeDown : w_YV mX6_takeDown 0 := ⟨mc_X6_takeDown, mi_X6_takeDown, mse_X6_takeDown, mini_X6, by decide +kernel⟩
abbrev mX8_undo : wM := (yX8_undo, cX8_undo, 1, (some .int))
theorem YV_X8_undo : w_YV mX8_undo 0 := ⟨mc_X8_undo, mi_X8_undo, mse_X8_undo, mini_X8, by decide +kernel⟩
abbrev mX2_restore : wM := (yX2_restore, cX2_restore, 2, none)
theorem YV_X2_restore : w_YV mX2_restore 1 := ⟨mc_X2_restore, mi_X2_restore, mse_X2_restore, mini_X2, by decide +kernel⟩
abbrev mX8_message : wM := (yX8_message, cX8_message, 2, (some .int))
theorem YV_X8_message : w_YV mX8_message 1 := ⟨mc_X8_message, mi_X8_message, mse_X8_message, mini_X8, by decide +kernel⟩
abbrev mX8_hoist : wM := (yX8_hoist, cX8_hoist, 3, (some .int))
theorem YV_X8_hoist : w_YV mX8_hoist 2 := ⟨mc_X8_hoist, mi_X8_hoist, mse_X8_hoist, mini_X8, by decide +kernel⟩
abbrev mX1_has : wM := (yX1_has, cX1_has, 2, (some .boolean))
theorem YV_X1_has : w_YV mX1_has 1 := ⟨mc_X1_has, mi_X1_has, mse_X1_has, mini_X1, by decide +kernel⟩
abbrev mX1_show : wM := (yX1_show, cX1_show, 3, none)
theorem YV_X1_show : w_YV mX1_show 1 := ⟨mc_X1_show, mi_X1_show, mse_X1_show, mini_X1, by decide +kernel⟩
abbrev mX8_thing : wM := (yX8_thing, cX8_thing, 3, (some .int))
theorem YV_X8_thing : w_YV mX8_thing 2 := ⟨mc_X8_thing, mi_X8_thing, mse_X8_thing, mini_X8, by decide +kernel⟩
abbrev mX8_told : wM := (yX8_told, cX8_told, 4, (some .int))
theorem YV_X8_told : w_YV mX8_told 3 := ⟨mc_X8_told, mi_X8_told, mse_X8_told, mini_X8, by decide +kernel⟩
abbrev mX8_isDistance : wM := (yX8_isDistance, cX8_isDistance, 1, (some .boolean))
theorem YS_X8_isDistance : w_YS mX8_isDistance 1 := ⟨mc_X8_isDistance, ms_X8_isDistance, mini_X8, by decide +kernel⟩
abbrev mX0_mayBe : wM := (yX0_mayBe, cX0_mayBe, 5, (some .boolean))
theorem YV_X0_mayBe : w_YV mX0_mayBe 3 := ⟨mc_X0_mayBe, mi_X0_mayBe, mse_X0_mayBe, mini_X0, by decide +kernel⟩
abbrev mX0_flagMayBe : wM := (yX0_flagMayBe, cX0_flagMayBe, 4, (some .boolean))
theorem YV_X0_flagMayBe : w_YV mX0_flagMayBe 3 := ⟨mc_X0_flagMayBe, mi_X0_flagMayBe, mse_X0_flagMayBe, mini_X0, by decide +kernel⟩
abbrev mX0_isBlurred : wM := (yX0_isBlurred, cX0_isBlurred, 3, (some .boolean))
theorem YV_X0_isBlurred : w_YV mX0_isBlurred 2 := ⟨mc_X0_isBlurred, mi_X0_isBlurred, mse_X0_isBlurred, mini_X0, by decide +kernel⟩
abbrev mX8_meanings : wM := (yX8_meanings, cX8_meanings, 3, (some .int))
theorem YV_X8_meanings : w_YV mX8_meanings 2 := ⟨mc_X8_meanings, mi_X8_meanings, mse_X8_meanings, mini_X8, by decide +kernel⟩
abbrev mX1_waysToRead : wM := (yX1_waysToRead, cX1_waysToRead, 5, (some .int))
theorem YV_X1_waysToRead : w_YV mX1_waysToRead 2 := ⟨mc_X1_waysToRead, mi_X1_waysToRead, mse_X1_waysToRead, mini_X1, by decide +kernel⟩
abbrev mX0_likenesses : wM := (yX0_likenesses, cX0_likenesses, 5, (some .int))
theorem YV_X0_likenesses : w_YV mX0_likenesses 2 := ⟨mc_X0_likenesses, mi_X0_likenesses, mse_X0_likenesses, mini_X0, by decide +kernel⟩
abbrev mX8_sees : wM := (yX8_sees, cX8_sees, 3, (some .int))
theorem YV_X8_sees : w_YV mX8_sees 2 := ⟨mc_X8_sees, mi_X8_sees, mse_X8_sees, mini_X8, by decide +kernel⟩
abbrev mX5_note : wM := (yX5_note, cX5_note, 3, none)
theorem YV_X5_note : w_YV mX5_note 2 := ⟨mc_X5_note, mi_X5_note, mse_X5_note, mini_X5, by decide +kernel⟩
abbrev mX8_forget : wM := (yX8_forget, cX8_forget, 2, (some .int))
theorem YV_X8_forget : w_YV mX8_forget 0 := ⟨mc_X8_forget, mi_X8_forget, mse_X8_forget, mini_X8, by decide +kernel⟩
abbrev mX8_unseen : wM := (yX8_unseen, cX8_unseen, 3, (some .int))
theorem YV_X8_unseen : w_YV mX8_unseen 0 := ⟨mc_X8_unseen, mi_X8_unseen, mse_X8_unseen, mini_X8, by decide +kernel⟩
abbrev mX5_allFit : wM := (yX5_allFit, cX5_allFit, 3, (some .boolean))
theorem YV_X5_allFit : w_YV mX5_allFit 1 := ⟨mc_X5_allFit, mi_X5_allFit, mse_X5_allFit, mini_X5, by decide +kernel⟩
abbrev mX1_thingsOf : wM := (yX1_thingsOf, cX1_thingsOf, 2, (some .int))
theorem YV_X1_thingsOf : w_YV mX1_thingsOf 1 := ⟨mc_X1_thingsOf, mi_X1_thingsOf, mse_X1_thingsOf, mini_X1, by decide +kernel⟩
abbrev mX8_keep : wM := (yX8_keep, cX8_keep, 2, (some .int))
theorem YV_X8_keep : w_YV mX8_keep 1 := ⟨mc_X8_keep, mi_X8_keep, mse_X8_keep, mini_X8, by decide +kernel⟩
abbrev mX8_back : wM := (yX8_back, cX8_back, 2, (some .int))
theorem YV_X8_back : w_YV mX8_back 1 := ⟨mc_X8_back, mi_X8_back, mse_X8_back, mini_X8, by decide +kernel⟩
abbrev mX8_count : wM := (yX8_count, cX8_count, 2, (some .int))
theorem YV_X8_count : w_YV mX8_count 1 := ⟨mc_X8_count, mi_X8_count, mse_X8_count, mini_X8, by decide +kernel⟩
abbrev mX1_farthest : wM := (yX1_farthest, cX1_farthest, 2, (some .int))
theorem YV_X1_farthest : w_YV mX1_farthest 0 := ⟨mc_X1_farthest, mi_X1_farthest, mse_X1_farthest, mini_X1, by decide +kernel⟩
abbrev mX1_isReadOneWay : wM := (yX1_isReadOneWay, cX1_isReadOneWay, 3, (some .boolean))
theorem YV_X1_isReadOneWay : w_YV mX1_isReadOneWay 1 := ⟨mc_X1_isReadOneWay, mi_X1_isReadOneWay, mse_X1_isReadOneWay, mini_X1, by decide +kernel⟩
abbrev mX9_init : wM := (yX9_init, cX9_init, 1, none)
theorem YI_X9_init : w_YI mX9_init 0 := ⟨mc_X9_init, mi_X9_init, mini_X9, rfl, rfl, by decide +kernel⟩
abbrev mX9_firstFlags : wM := (yX9_firstFlags, cX9_firstFlags, 3, none)
theorem YS_X9_firstFlags : w_YS mX9_firstFlags 2 := ⟨mc_X9_firstFlags, ms_X9_firstFlags, mini_X9, by decide +kernel⟩
abbrev mX9_type : wM := (yX9_type, cX9_type, 2, (some .int))
theorem YV_X9_type : w_YV mX9_type 1 := ⟨mc_X9_type, mi_X9_type, mse_X9_type, mini_X9, by decide +kernel⟩
abbrev mX9_in : wM := (yX9_in, cX9_in, 6, (some .boolean))
theorem YS_X9_in : w_YS mX9_in 3 := ⟨mc_X9_in, ms_X9_in, mini_X9, by decide +kernel⟩
abbrev mX9_clear : wM := (yX9_clear, cX9_clear, 2, (some .int))
theorem YV_X9_clear : w_YV mX9_clear 0 := ⟨mc_X9_clear, mi_X9_clear, mse_X9_clear, mini_X9, by decide +kernel⟩
abbrev mX9_book : wM := (yX9_book, cX9_book, 3, (some .int))
theorem YV_X9_book : w_YV mX9_book 0 := ⟨mc_X9_book, mi_X9_book, mse_X9_book, mini_X9, by decide +kernel⟩
abbrev mX9_reads : wM := (yX9_reads, cX9_reads, 1, (some .boolean))
theorem YV_X9_reads : w_YV mX9_reads 0 := ⟨mc_X9_reads, mi_X9_reads, mse_X9_reads, mini_X9, by decide +kernel⟩
abbrev mX9_take : wM := (yX9_take, cX9_take, 1, none)
theorem YV_X9_take : w_YV mX9_take 0 := ⟨mc_X9_take, mi_X9_take, mse_X9_take, mini_X9, by decide +kernel⟩
abbrev mX9_isDigit : wM := (yX9_isDigit, cX9_isDigit, 1, (some .boolean))
theorem YS_X9_isDigit : w_YS mX9_isDigit 1 := ⟨mc_X9_isDigit, ms_X9_isDigit, mini_X9, by decide +kernel⟩
abbrev mX9_readsItem : wM := (yX9_readsItem, cX9_readsItem, 1, (some .boolean))
theorem YV_X9_readsItem : w_YV mX9_readsItem 0 := ⟨mc_X9_readsItem, mi_X9_readsItem, mse_X9_readsItem, mini_X9, by decide +kernel⟩
abbrev mX9_readsPlaces : wM := (yX9_readsPlaces, cX9_readsPlaces, 1, (some .boolean))
theorem YV_X9_readsPlaces : w_YV mX9_readsPlaces 0 := ⟨mc_X9_readsPlaces, mi_X9_readsPlaces, mse_X9_readsPlaces, mini_X9, by decide +kernel⟩
abbrev mX9_isNumber : wM := (yX9_isNumber, cX9_isNumber, 3, (some .boolean))
theorem YV_X9_isNumber : w_YV mX9_isNumber 2 := ⟨mc_X9_isNumber, mi_X9_isNumber, mse_X9_isNumber, mini_X9, by decide +kernel⟩
abbrev mX9_readsEnd : wM := (yX9_readsEnd, cX9_readsEnd, 2, (some .boolean))
theorem YV_X9_readsEnd : w_YV mX9_readsEnd 0 := ⟨mc_X9_readsEnd, mi_X9_readsEnd, mse_X9_readsEnd, mini_X9, by decide +kernel⟩
abbrev mX9_readsFlag : wM := (yX9_readsFlag, cX9_readsFlag, 2, (some .boolean))
theorem YV_X9_readsFlag : w_YV mX9_readsFlag 0 := ⟨mc_X9_readsFlag, mi_X9_readsFlag, mse_X9_readsFlag, mini_X9, by decide +kernel⟩
abbrev mX9_isFlag : wM := (yX9_isFlag, cX9_isFlag, 1, (some .boolean))
theorem YV_X9_isFlag : w_YV mX9_isFlag 0 := ⟨mc_X9_isFlag, mi_X9_isFlag, mse_X9_isFlag, mini_X9, by decide +kernel⟩
abbrev mX9_readsCode : wM := (yX9_readsCode, cX9_readsCode, 2, (some .boolean))
theorem YV_X9_readsCode : w_YV mX9_readsCode 0 := ⟨mc_X9_readsCode, mi_X9_readsCode, mse_X9_readsCode, mini_X9, by decide +kernel⟩
abbrev mX9_isNew : wM := (yX9_isNew, cX9_isNew, 5, (some .boolean))
theorem YV_X9_isNew : w_YV mX9_isNew 1 := ⟨mc_X9_isNew, mi_X9_isNew, mse_X9_isNew, mini_X9, by decide +kernel⟩
abbrev mX9_flag : wM := (yX9_flag, cX9_flag, 3, (some .int))
theorem YV_X9_flag : w_YV mX9_flag 2 := ⟨mc_X9_flag, mi_X9_flag, mse_X9_flag, mini_X9, by decide +kernel⟩
abbrev mX9_code : wM := (yX9_code, cX9_code, 3, (some .int))
theorem YV_X9_code : w_YV mX9_code 2 := ⟨mc_X9_code, mi_X9_code, mse_X9_code, mini_X9, by decide +kernel⟩
abbrev mX9_isSentence : wM := (yX9_isSentence, cX9_isSentence, 2, (some .boolean))
theorem YV_X9_isSentence : w_YV mX9_isSentence 1 := ⟨mc_X9_isSentence, mi_X9_isSentence, mse_X9_isSentence, mini_X9, by decide +kernel⟩
abbrev mX9_sorted : wM := (yX9_sorted, cX9_sorted, 2, (some .int))
theorem YV_X9_sorted : w_YV mX9_sorted 1 := ⟨mc_X9_sorted, mi_X9_sorted, mse_X9_sorted, mini_X9, by decide +kernel⟩
abbrev mX9_atRank : wM := (yX9_atRank, cX9_atRank, 5, (some .int))
theorem YV_X9_atRank : w_YV mX9_atRank 1 := ⟨mc_X9_atRank, mi_X9_atRank, mse_X9_atRank, mini_X9, by decide +kernel⟩
abbrev mX9_asNumber : wM := (yX9_asNumber, cX9_asNumber, 4, (some .int))
theorem YV_X9_asNumber : w_YV mX9_asNumber 1 := ⟨mc_X9_asNumber, mi_X9_asNumber, mse_X9_asNumber, mini_X9, by decide +kernel⟩
abbrev mX9_first : wM := (yX9_first, cX9_first, 4, (some .int))
theorem YV_X9_first : w_YV mX9_first 1 := ⟨mc_X9_first, mi_X9_first, mse_X9_first, mini_X9, by decide +kernel⟩
abbrev mX9_message : wM := (yX9_message, cX9_message, 2, (some .int))
theorem YV_X9_message : w_YV mX9_message 1 := ⟨mc_X9_message, mi_X9_message, mse_X9_message, mini_X9, by decide +kernel⟩
abbrev mX9_hoist : wM := (yX9_hoist, cX9_hoist, 6, (some .int))
theorem YV_X9_hoist : w_YV mX9_hoist 2 := ⟨mc_X9_hoist, mi_X9_hoist, mse_X9_hoist, mini_X9, by decide +kernel⟩
abbrev mX9_makes : wM := (yX9_makes, cX9_makes, 6, none)
theorem YV_X9_makes : w_YV mX9_makes 1 := ⟨mc_X9_makes, mi_X9_makes, mse_X9_makes, mini_X9, by decide +kernel⟩
abbrev mX9_cutBy : wM := (yX9_cutBy, cX9_cutBy, 5, (some .int))
theorem YV_X9_cutBy : w_YV mX9_cutBy 1 := ⟨mc_X9_cutBy, mi_X9_cutBy, mse_X9_cutBy, mini_X9, by decide +kernel⟩
abbrev mX9_shows : wM := (yX9_shows, cX9_shows, 10, (some .int))
theorem YV_X9_shows : w_YV mX9_shows 2 := ⟨mc_X9_shows, mi_X9_shows, mse_X9_shows, mini_X9, by decide +kernel⟩
abbrev mX9_shownFor : wM := (yX9_shownFor, cX9_shownFor, 7, (some .int))
theorem YV_X9_shownFor : w_YV mX9_shownFor 3 := ⟨mc_X9_shownFor, mi_X9_shownFor, mse_X9_shownFor, mini_X9, by decide +kernel⟩
abbrev mX9_things : wM := (yX9_things, cX9_things, 2, (some .int))
theorem YV_X9_things : w_YV mX9_things 1 := ⟨mc_X9_things, mi_X9_things, mse_X9_things, mini_X9, by decide +kernel⟩
abbrev mX9_thing : wM := (yX9_thing, cX9_thing, 4, (some .int))
theorem YV_X9_thing : w_YV mX9_thing 2 := ⟨mc_X9_thing, mi_X9_thing, mse_X9_thing, mini_X9, by decide +kernel⟩
abbrev mX9_puts : wM := (yX9_puts, cX9_puts, 4, (some .int))
theorem YV_X9_puts : w_YV mX9_puts 2 := ⟨mc_X9_puts, mi_X9_puts, mse_X9_puts, mini_X9, by decide +kernel⟩
abbrev mX9_minds : wM := (yX9_minds, cX9_minds, 2, none)
theorem YV_X9_minds : w_YV mX9_minds 0 := ⟨mc_X9_minds, mi_X9_minds, mse_X9_minds, mini_X9, by decide +kernel⟩
abbrev mX9_copy : wM := (yX9_copy, cX9_copy, 4, none)
theorem YV_X9_copy : w_YV mX9_copy 2 := ⟨mc_X9_copy, mi_X9_copy, mse_X9_copy, mini_X9, by decide +kernel⟩
abbrev mX9_none : wM := (yX9_none, cX9_none, 1, none)
theorem YV_X9_none : w_YV mX9_none 0 := ⟨mc_X9_none, mi_X9_none, mse_X9_none, mini_X9, by decide +kernel⟩
abbrev mX9_takes : wM := (yX9_takes, cX9_takes, 4, (some .int))
theorem YV_X9_takes : w_YV mX9_takes 1 := ⟨mc_X9_takes, mi_X9_takes, mse_X9_takes, mini_X9, by decide +kernel⟩
abbrev mX9_places : wM := (yX9_places, cX9_places, 3, (some .int))
theorem YV_X9_places : w_YV mX9_places 1 := ⟨mc_X9_places, mi_X9_places, mse_X9_places, mini_X9, by decide +kernel⟩
abbrev mX9_sends : wM := (yX9_sends, cX9_sends, 1, (some .int))
theorem YV_X9_sends : w_YV mX9_sends 0 := ⟨mc_X9_sends, mi_X9_sends, mse_X9_sends, mini_X9, by decide +kernel⟩
abbrev mX9_answers : wM := (yX9_answers, cX9_answers, 3, (some .int))
theorem YV_X9_answers : w_YV mX9_answers 1 := ⟨mc_X9_answers, mi_X9_answers, mse_X9_answers, mini_X9, by decide +kernel⟩
abbrev mX9_undo : wM := (yX9_undo, cX9_undo, 1, (some .int))
theorem YV_X9_undo : w_YV mX9_undo 0 := ⟨mc_X9_undo, mi_X9_undo, mse_X9_undo, mini_X9, by decide +kernel⟩
abbrev mX9_told : wM := (yX9_told, cX9_told, 4, (some .int))
theorem YV_X9_told : w_YV mX9_told 3 := ⟨mc_X9_told, mi_X9_told, mse_X9_told, mini_X9, by decide +kernel⟩
abbrev mX9_isTold : wM := (yX9_isTold, cX9_isTold, 6, (some .boolean))
theorem YV_X9_isTold : w_YV mX9_isTold 3 := ⟨mc_X9_isTold, mi_X9_isTold, mse_X9_isTold, mini_X9, by decide +kernel⟩
abbrev mX9_mayBe : wM := (yX9_mayBe, cX9_mayBe, 4, (some .boolean))
theorem YV_X9_mayBe : w_YV mX9_mayBe 3 := ⟨mc_X9_mayBe, mi_X9_mayBe, mse_X9_mayBe, mini_X9, by decide +kernel⟩
abbrev mX9_meanings : wM := (yX9_meanings, cX9_meanings, 3, (some .int))
theorem YV_X9_meanings : w_YV mX9_meanings 2 := ⟨mc_X9_meanings, mi_X9_meanings, mse_X9_meanings, mini_X9, by decide +kernel⟩
abbrev mX9_ways : wM := (yX9_ways, cX9_ways, 7, (some .int))
theorem YV_X9_ways : w_YV mX9_ways 2 := ⟨mc_X9_ways, mi_X9_ways, mse_X9_ways, mini_X9, by decide +kernel⟩
abbrev mX9_sees : wM := (yX9_sees, cX9_sees, 3, (some .int))
theorem YV_X9_sees : w_YV mX9_sees 2 := ⟨mc_X9_sees, mi_X9_sees, mse_X9_sees, mini_X9, by decide +kernel⟩
abbrev mX9_forget : wM := (yX9_forget, cX9_forget, 2, (some .int))
theorem YV_X9_forget : w_YV mX9_forget 0 := ⟨mc_X9_forget, mi_X9_forget, mse_X9_forget, mini_X9, by decide +kernel⟩
abbrev mX9_unseen : wM := (yX9_unseen, cX9_unseen, 6, (some .int))
theorem YV_X9_unseen : w_YV mX9_unseen 0 := ⟨mc_X9_unseen, mi_X9_unseen, mse_X9_unseen, mini_X9, by decide +kernel⟩
abbrev mX9_keep : wM := (yX9_keep, cX9_keep, 2, (some .int))
theorem YV_X9_keep : w_YV mX9_keep 1 := ⟨mc_X9_keep, mi_X9_keep, mse_X9_keep, mini_X9, by decide +kernel⟩
abbrev mX9_back : wM := (yX9_back, cX9_back, 2, (some .int))
theorem YV_X9_back : w_YV mX9_back 1 := ⟨mc_X9_back, mi_X9_back, mse_X9_back, mini_X9, by decide +kernel⟩
abbrev mX9_count : wM := (yX9_count, cX9_count, 2, (some .int))
theorem YV_X9_count : w_YV mX9_count 1 := ⟨mc_X9_count, mi_X9_count, mse_X9_count, mini_X9, by decide +kernel⟩
abbrev mX9_count0 : wM := (yX9_count0, cX9_count0, 2, (some .int))
theorem YV_X9_count0 : w_YV mX9_count0 1 := ⟨mc_X9_count0, mi_X9_count0, mse_X9_count0, mini_X9, by decide +kernel⟩
abbrev mX9_farthest : wM := (yX9_farthest, cX9_farthest, 3, (some .int))
theorem YV_X9_farthest : w_YV mX9_farthest 0 := ⟨mc_X9_farthest, mi_X9_farthest, mse_X9_farthest, mini_X9, by decide +kernel⟩
end
section
/-! THE BOOK (of the class): n sentences, ln letters each, lt the letters; a code is packed, four bits a letter -/
def dg (ln : Nat → Nat) (lt : Nat → Nat → Nat) (s i : Nat) : Nat := if i < ln s then lt s i + 1 else 0
def pkd (d : Nat → Nat) : Nat := d 0 * 4096 + d 1 * 256 + d 2 * 16 + d 3
def ltI (d : Nat) : Int32 := if d = 0 then -9 else nI (d - 1)
theorem ltI_0 : ltI 0 = -9 := rfl
theorem ltI_s {d : Nat} (h : d ≠ 0) : ltI d = nI (d - 1) := by simp [ltI, h]
theorem ltI_inj {a b : Nat} (ha : a ≤ 8) (hb : b ≤ 8) (h : (ltI a).toInt = (ltI b).toInt) : a = b := by
  have h9 : (-9 : Int32).toInt = -9 := by decide
  by_cases h1 : a = 0 <;> by_cases h2 : b = 0
  · omega
  · rw [h1, ltI_0, ltI_s h2, nI_toInt (by omega)] at h
    omega
  · rw [h2, ltI_0, ltI_s h1, nI_toInt (by omega)] at h
    omega
  · rw [ltI_s h1, ltI_s h2, nI_toInt (by omega), nI_toInt (by omega)] at h
    omega
def BK (V : wV) (h k n : Nat) (ln : Nat → Nat) (lt : Nat → Nat → Nat) : Prop := V h 3 = nI n ∧ n ≤ 10 ∧ ∀ s, s < n → V k s = nI (pkd (dg ln lt s)) ∧ 1 ≤ ln s ∧ ln s ≤ 4 ∧ ∀ i, i < ln s → lt s i < 8
def FG (V : wV) (c z : Nat) (col siz : Nat → Nat) : Prop := ∀ f, f < 8 → V c f = nI (col f) ∧ V z f = nI (siz f) ∧ col f < 8 ∧ siz f ≤ 9
theorem BK_dg {V : wV} {h k n : Nat} {ln : Nat → Nat} {lt : Nat → Nat → Nat} (b : BK V h k n ln lt) {s : Nat} (hs : s < n) (i : Nat) : dg ln lt s i ≤ 8 := by
  unfold dg
  split
  · have := (b.2.2 s hs).2.2.2 i (by assumption); omega
  · omega
theorem pkd_lt {d : Nat → Nat} (h : ∀ i, d i ≤ 8) : pkd d < 65536 := by
  have h0 := h 0; have h1 := h 1; have h2 := h 2; have h3 := h 3
  unfold pkd; omega
theorem pkd_dig {d : Nat → Nat} (h : ∀ i, d i ≤ 8) {i : Nat} (hi : i < 4) : pkd d / 2 ^ (4 * (3 - i)) % 16 = d i := by
  have h0 := h 0; have h1 := h 1; have h2 := h 2; have h3 := h 3
  unfold pkd
  rcases (show i = 0 ∨ i = 1 ∨ i = 2 ∨ i = 3 by omega) with rfl | rfl | rfl | rfl <;> simp <;> omega
theorem ltI_9 {d : Nat} (h : d ≤ 8) : (ltI d).toInt = -9 ↔ d = 0 := by
  constructor
  · intro q
    by_cases h0 : d = 0
    · exact h0
    · rw [ltI_s h0, nI_toInt (by omega)] at q; omega
  · intro q; subst q; decide
theorem has_nI {s n : Nat} (h : s < 2 ^ 31) : decide (0 ≤ (nI s).toInt ∧ (nI s).toInt < n) = decide (s < n) := by
  rw [nI_toInt h]
  exact decide_eq_decide.mpr (by omega)
theorem c_X0_shiftOf {E : wE} {S : List wK} {ad : Nat → Nat} {V : wV} {i : Nat} (hi : i < 4) : w_C E mX0_shiftOf (w_R 0 0 0) 0 0 [.int (nI (i))] S ad V (w_i S ad (fun r V' => r = nI (4 * (3 - i)) ∧ V' = V)) := by
  refine w_C.of (by decide) (Nat.le_of_ble_eq_true rfl) ?_
  show Wp _ _ _ _ _ _ _ _ _ [(0, .int (nI (i)))] [] S ad V
  refine Wp_iconst (v := (nI (4))) dX0_shiftOf_0 (by decide) ?_
  refine Wp_iconst (v := (nI (3))) dX0_shiftOf_1 (by decide) ?_
  refine Wp_iload_n dX0_shiftOf_2 rfl 0 rfl ?_
  refine Wp_isub (z := (nI ((3 - i)))) dX0_shiftOf_3 (pk_sub (by omega)) ?_
  refine Wp_imul (z := (nI ((4 * (3 - i))))) dX0_shiftOf_4 (pk_mul _ _) ?_
  exact Wp_iret rfl ⟨rfl, rfl, _, rfl, ⟨rfl, rfl⟩⟩ (Nat.le_refl _) (Nat.le_refl _) dX0_shiftOf_5
theorem c_X0_packed {E : wE} {S : List wK} {ad : Nat → Nat} {V : wV} {f i : Nat} (hf : f < 8) (hi : i < 4) : w_C E mX0_packed (w_R 1 0 0) 0 0 [.int (nI (f)), .int (nI (i))] S ad V (w_i S ad (fun r V' => r = nI ((f + 1) * 2 ^ (4 * (3 - i))) ∧ V' = V)) := by
  refine w_C.of (by decide) (Nat.le_of_ble_eq_true rfl) ?_
  show Wp _ _ _ _ _ _ _ _ _ [(0, .int (nI (f))), (1, .int (nI (i)))] [] S ad V
  have hb : (f + 1) * 2 ^ (4 * (3 - i)) < 2 ^ 32 := by
    rcases (show i = 0 ∨ i = 1 ∨ i = 2 ∨ i = 3 by omega) with rfl | rfl | rfl | rfl <;> simp <;> omega
  refine Wp_iload_n dX0_packed_0 rfl 0 rfl ?_
  refine Wp_iconst (v := (nI (1))) dX0_packed_1 (by decide) ?_
  refine Wp_iadd (z := (nI ((f + 1)))) dX0_packed_2 (nI_add _ _) ?_
  refine Wp_iload_n dX0_packed_3 rfl 1 rfl ?_
  refine Wp_callSg (c_X0_shiftOf hi) YS_X0_shiftOf ml_X0_37 dX0_packed_4 (by omega) (by decide) (by omega) (by omega) rfl rfl (Nat.le_of_ble_eq_true rfl) ?_
  refine Wp_ishl (z := (nI ((f + 1) * 2 ^ (4 * (3 - i))))) dX0_packed_7 (w_shl (by omega) hb) ?_
  exact Wp_iret rfl ⟨rfl, rfl, _, rfl, ⟨rfl, rfl⟩⟩ (Nat.le_refl _) (Nat.le_refl _) dX0_packed_8
theorem c_X0_has {E : wE} {S : List wK} {ad : Nat → Nat} {V : wV} {h c z k : Nat} (hB : S[h]? = some (.inl (0, [some (some c), some (some z), some (some k), none, none]))) {n : Nat} (hn : V h 3 = nI n) (hn10 : n ≤ 10) (s : Int32) : w_C E mX0_has (w_R 0 0 0) 0 0 [.ref (ad (h)), .int (s)] S ad V (w_i S ad (fun r V' => r = bI (decide (0 ≤ s.toInt ∧ s.toInt < n)) ∧ V' = V)) := by
  refine w_C.of (by decide) (Nat.le_of_ble_eq_true rfl) ?_
  show Wp _ _ _ _ _ _ _ _ _ [(0, .ref (ad (h))), (1, .int (s))] [] S ad V
  refine Wp_iload_n dX0_has_0 rfl 1 rfl ?_
  refine Wp_if_lt (tgt := 16) dX0_has_1 (by decide) (rfl) (fun c_1 => ?_) (fun c_1 => ?_)
  · refine Wp_iconst (v := (nI (0))) dX0_has_16 (by decide) ?_
    exact Wp_zret (b := false) rfl rfl ⟨rfl, rfl, _, rfl, ⟨congrArg bI (decide_eq_false (by omega)).symm, rfl⟩⟩ (Nat.le_refl _) (Nat.le_refl _) dX0_has_17
  · refine Wp_iload_n dX0_has_4 rfl 1 rfl ?_
    refine Wp_aload_n dX0_has_5 rfl 0 rfl ?_
    refine Wp_get (x := (nI (n))) fk_X0_24 hB rfl hn dX0_has_6 ?_
    refine Wp_icmp_ge (tgt := 16) dX0_has_9 (by decide) (rfl) (nI_toInt (by omega)) (fun c_9 => ?_) (fun c_9 => ?_)
    · refine Wp_iconst (v := (nI (0))) dX0_has_16 (by decide) ?_
      exact Wp_zret (b := false) rfl rfl ⟨rfl, rfl, _, rfl, ⟨congrArg bI (decide_eq_false (by omega)).symm, rfl⟩⟩ (Nat.le_refl _) (Nat.le_refl _) dX0_has_17
    · refine Wp_iconst (v := (nI (1))) dX0_has_12 (by decide) ?_
      refine Wp_goto (tgt := 17) dX0_has_13 (by decide) ?_
      exact Wp_zret (b := true) rfl rfl ⟨rfl, rfl, _, rfl, ⟨congrArg bI (decide_eq_true (by omega)).symm, rfl⟩⟩ (Nat.le_refl _) (Nat.le_refl _) dX0_has_17
theorem lp_X0_hasCode {E : wE} {S : List wK} {ad : Nat → Nat} {V : wV} {h c z k : Nat} (hB : S[h]? = some (.inl (0, [some (some c), some (some z), some (some k), none, none])))(hk : S[k]? = some (.inr (.inl (false, 10)))) {n : Nat} {ln : Nat → Nat} {lt : Nat → Nat → Nat} (b : BK V h k n ln lt) {x : Nat} (hx : x < 65536) : ∀ (m : Nat) (s : Nat), s ≤ n → n < s + m → (∀ t, t < s → pkd (dg ln lt t) ≠ x) → Wp E mX0_hasCode (w_R 0 0 0) (w_i S ad (fun r V' => r = bI (decide (∃ s, s < n ∧ pkd (dg ln lt s) = x)) ∧ V' = V)) 0 0 0 0 2 [(2, .int (nI (s))), (0, .ref (ad (h))), (1, .int (nI (x)))] [] S ad V := by
  have hn := b.1; have hn10 := b.2.1
  intro m
  induction m with
  | zero => intro s hs hm hv; omega
  | succ m ih =>
    intro s hs hm hv
    refine Wp_iload_n dX0_hasCode_2 rfl 0 rfl ?_
    refine Wp_aload_n dX0_hasCode_3 rfl 1 rfl ?_
    refine Wp_get (x := (nI (n))) fk_X0_24 hB rfl hn dX0_hasCode_4 ?_
    refine Wp_icmp_ge (tgt := 28) dX0_hasCode_7 (by decide) (nI_toInt (by omega)) (nI_toInt (by omega)) (fun c_7 => ?_) (fun c_7 => ?_)
    · refine Wp_iconst (v := (nI (0))) dX0_hasCode_28 (by decide) ?_
      exact Wp_zret (b := false) rfl rfl ⟨rfl, rfl, _, rfl, ⟨congrArg bI (decide_eq_false (fun ⟨t, h1, h2⟩ => hv t (by omega) h2)).symm, rfl⟩⟩ (Nat.le_refl _) (Nat.le_refl _) dX0_hasCode_29
    · have hp := pkd_lt (fun i => BK_dg b (show s < n by omega) i)
      refine Wp_aload_n dX0_hasCode_10 rfl 1 rfl ?_
      refine Wp_getr fk_X0_18 hB rfl dX0_hasCode_11 ?_
      refine Wp_iload_n dX0_hasCode_14 rfl 0 rfl ?_
      refine Wp_ild (n := s) (y := (nI (pkd (dg ln lt s)))) hk rfl (by omega) (by decide) (b.2.2 s (by omega)).1 dX0_hasCode_15 ?_
      refine Wp_iload_n dX0_hasCode_16 rfl 2 rfl ?_
      refine Wp_icmp_ne (tgt := 22) dX0_hasCode_17 (by decide) (nI_toInt (by omega)) (nI_toInt (by omega)) (fun c_17 => ?_) (fun c_17 => ?_)
      · refine Wp_iinc (x := (nI ((s + 1)))) (lv' := [(2, .int (nI ((s + 1)))), (0, .ref (ad (h))), (1, .int (nI (x)))]) dX0_hasCode_22 0 rfl (w_inc1 _) (by decide) rfl ?_
        refine Wp_goto (tgt := 2) dX0_hasCode_25 (by decide) ?_
        exact ih (s + 1) (by omega) (by omega) (fun t ht => by
          rcases Nat.lt_or_ge t s with q | q
          · exact hv t q
          · have e : t = s := by omega
            subst e; omega)
      · refine Wp_iconst (v := (nI (1))) dX0_hasCode_20 (by decide) ?_
        exact Wp_zret (b := true) rfl rfl ⟨rfl, rfl, _, rfl, ⟨congrArg bI (decide_eq_true ⟨s, by omega, by omega⟩).symm, rfl⟩⟩ (Nat.le_refl _) (Nat.le_refl _) dX0_hasCode_21
theorem c_X0_hasCode {E : wE} {S : List wK} {ad : Nat → Nat} {V : wV} {h c z k : Nat} (hB : S[h]? = some (.inl (0, [some (some c), some (some z), some (some k), none, none])))(hk : S[k]? = some (.inr (.inl (false, 10)))) {n : Nat} {ln : Nat → Nat} {lt : Nat → Nat → Nat} (b : BK V h k n ln lt) {x : Nat} (hx : x < 65536) : w_C E mX0_hasCode (w_R 0 0 0) 0 0 [.ref (ad (h)), .int (nI (x))] S ad V (w_i S ad (fun r V' => r = bI (decide (∃ s, s < n ∧ pkd (dg ln lt s) = x)) ∧ V' = V)) := by
  refine w_C.of (by decide) (Nat.le_of_ble_eq_true rfl) ?_
  show Wp _ _ _ _ _ _ _ _ _ [(0, .ref (ad (h))), (1, .int (nI (x)))] [] S ad V
  refine Wp_iconst (v := (nI (0))) dX0_hasCode_0 (by decide) ?_
  refine Wp_istore_n (lv' := [(2, .int (nI (0))), (0, .ref (ad (h))), (1, .int (nI (x)))]) dX0_hasCode_1 rfl (by decide) rfl ?_
  exact lp_X0_hasCode hB hk b hx (n + 1) 0 (by omega) (by omega) (fun t ht => by omega)
theorem c_X0_add {E : wE} {S : List wK} {ad : Nat → Nat} {V : wV} {h c z k : Nat} (hB : S[h]? = some (.inl (0, [some (some c), some (some z), some (some k), none, none])))(hk : S[k]? = some (.inr (.inl (false, 10)))) {n : Nat} (hn : V h 3 = nI n) (hn10 : n ≤ 10) (hlt : n < 10) (x : Int32) : w_C E mX0_add (w_R 0 0 0) 0 0 [.ref (ad (h)), .int (x)] S ad V (w_v S ad (fun V' => V' = up2 (up2 V k n x) h 3 (nI (n + 1)))) := by
  refine w_C.of (by decide) (Nat.le_of_ble_eq_true rfl) ?_
  show Wp _ _ _ _ _ _ _ _ _ [(0, .ref (ad (h))), (1, .int (x))] [] S ad V
  refine Wp_aload_n dX0_add_0 rfl 0 rfl ?_
  refine Wp_get (x := (nI (n))) fk_X0_24 hB rfl hn dX0_add_1 ?_
  refine Wp_bipush (v := (nI (10))) dX0_add_4 (by decide) ?_
  refine Wp_icmp_ge (tgt := 29) dX0_add_6 (by decide) (nI_toInt (by omega)) (nI_toInt (by omega)) (fun c_6 => absurd c_6 (by omega)) (fun c_6 => ?_)
  refine Wp_aload_n dX0_add_9 rfl 0 rfl ?_
  refine Wp_getr fk_X0_18 hB rfl dX0_add_10 ?_
  refine Wp_aload_n dX0_add_13 rfl 0 rfl ?_
  refine Wp_get (x := (nI (n))) fk_X0_24 hB rfl hn dX0_add_14 ?_
  refine Wp_iload_n dX0_add_17 rfl 1 rfl ?_
  refine Wp_ist (n := n) hk rfl (by omega) (by decide) dX0_add_18 ?_
  refine Wp_aload_n dX0_add_19 rfl 0 rfl ?_
  refine Wp_dup dX0_add_20 rfl ?_
  refine Wp_get (x := (nI (n))) fk_X0_24 hB rfl ((up2_i (w_ne hB hk (by simp))).trans hn) dX0_add_21 ?_
  refine Wp_iconst (v := (nI (1))) dX0_add_24 (by decide) ?_
  refine Wp_iadd (z := (nI ((n + 1)))) dX0_add_25 (nI_add _ _) ?_
  refine Wp_put fk_X0_24 hB rfl rfl rfl dX0_add_26 ?_
  exact Wp_vret rfl ⟨rfl, rfl, rfl, rfl⟩ (Nat.le_refl _) (Nat.le_refl _) dX0_add_29
theorem c_X0_letterOf {E : wE} {S : List wK} {ad : Nat → Nat} {V : wV} {h c z k : Nat} (hB : S[h]? = some (.inl (0, [some (some c), some (some z), some (some k), none, none])))(hk : S[k]? = some (.inr (.inl (false, 10)))) {n : Nat} {ln : Nat → Nat} {lt : Nat → Nat → Nat} (b : BK V h k n ln lt) {s i : Nat} (hs : s < n) (hi : i < 4) : w_C E mX0_letterOf (w_R 1 0 0) 0 0 [.ref (ad (h)), .int (nI (s)), .int (nI (i))] S ad V (w_i S ad (fun r V' => r = ltI (dg ln lt s i) ∧ V' = V)) := by
  refine w_C.of (by decide) (Nat.le_of_ble_eq_true rfl) ?_
  show Wp _ _ _ _ _ _ _ _ _ [(0, .ref (ad (h))), (1, .int (nI (s))), (2, .int (nI (i)))] [] S ad V
  have hn := b.1; have hn10 := b.2.1
  have hd := fun i => BK_dg b hs i
  have hp := pkd_lt hd
  have h3 : nI (pkd (dg ln lt s) / 2 ^ (4 * (3 - i))) &&& nI 15 = nI (dg ln lt s i) := by
    rw [pk_andN (by have := Nat.div_le_self (pkd (dg ln lt s)) (2 ^ (4 * (3 - i))); omega) 4 (by decide), show (2 : Nat) ^ 4 = 16 from rfl, pkd_dig hd hi]
  have hdi := hd i
  refine Wp_aload_n dX0_letterOf_0 rfl 0 rfl ?_
  refine Wp_iload_n dX0_letterOf_1 rfl 1 rfl ?_
  refine Wp_callVg (c_X0_has hB hn hn10 _) YV_X0_has ml_X0_41 hB rfl dX0_letterOf_2 (by omega) (by decide) (by omega) (by omega) rfl rfl (Nat.le_of_ble_eq_true rfl) ?_
  refine Wp_ifne_b (tgt := 11) dX0_letterOf_5 (by decide) (fun c_5 => ?_) (fun c_5 => absurd c_5 (by rw [has_nI (by omega)]; simp; omega))
  refine Wp_aload_n dX0_letterOf_11 rfl 0 rfl ?_
  refine Wp_getr fk_X0_18 hB rfl dX0_letterOf_12 ?_
  refine Wp_iload_n dX0_letterOf_15 rfl 1 rfl ?_
  refine Wp_ild (n := s) (y := (nI (pkd (dg ln lt s)))) hk rfl (by omega) (by decide) (b.2.2 s hs).1 dX0_letterOf_16 ?_
  refine Wp_iload_n dX0_letterOf_17 rfl 2 rfl ?_
  refine Wp_callSg (c_X0_shiftOf hi) YS_X0_shiftOf ml_X0_37 dX0_letterOf_18 (by omega) (by decide) (by omega) (by omega) rfl rfl (Nat.le_of_ble_eq_true rfl) ?_
  refine Wp_ishr (z := (nI (pkd (dg ln lt s) / 2 ^ (4 * (3 - i))))) dX0_letterOf_21 (w_shr (by omega) (by omega)) ?_
  refine Wp_bipush (v := (nI (15))) dX0_letterOf_22 (by decide) ?_
  refine Wp_iand (z := (nI (dg ln lt s i))) dX0_letterOf_24 h3 ?_
  refine Wp_istore_n (lv' := [(3, .int (nI (dg ln lt s i))), (0, .ref (ad (h))), (1, .int (nI (s))), (2, .int (nI (i)))]) dX0_letterOf_25 rfl (by decide) rfl ?_
  refine Wp_iload_n dX0_letterOf_26 rfl 0 rfl ?_
  refine Wp_if_ne (tgt := 35) dX0_letterOf_27 (by decide) (nI_toInt (by omega)) (fun c_27 => ?_) (fun c_27 => ?_)
  · refine Wp_iload_n dX0_letterOf_35 rfl 0 rfl ?_
    refine Wp_iconst (v := (nI (1))) dX0_letterOf_36 (by decide) ?_
    refine Wp_isub (z := (nI ((dg ln lt s i - 1)))) dX0_letterOf_37 (pk_sub (by omega)) ?_
    exact Wp_iret rfl ⟨rfl, rfl, _, rfl, ⟨by rw [ltI_s (by omega)], rfl⟩⟩ (Nat.le_refl _) (Nat.le_refl _) dX0_letterOf_38
  · refine Wp_bipush (v := ((-9))) dX0_letterOf_30 (by decide) ?_
    refine Wp_goto (tgt := 38) dX0_letterOf_32 (by decide) ?_
    exact Wp_iret rfl ⟨rfl, rfl, _, rfl, ⟨by rw [show dg ln lt s i = 0 by omega]; rfl, rfl⟩⟩ (Nat.le_refl _) (Nat.le_refl _) dX0_letterOf_38
theorem lp_X0_lengthOf {E : wE} {S : List wK} {ad : Nat → Nat} {V : wV} {h c z k : Nat} (hB : S[h]? = some (.inl (0, [some (some c), some (some z), some (some k), none, none])))(hk : S[k]? = some (.inr (.inl (false, 10)))) {n : Nat} {ln : Nat → Nat} {lt : Nat → Nat → Nat} (b : BK V h k n ln lt) {s : Nat} (hs : s < n) : ∀ (m : Nat) (i : Nat), i ≤ ln s → 4 < i + m → Wp E mX0_lengthOf (w_R 2 0 0) (w_i S ad (fun r V' => r = nI (ln s) ∧ V' = V)) 0 0 0 0 2 [(2, .int (nI (i))), (0, .ref (ad (h))), (1, .int (nI (s)))] [] S ad V := by
  have hn := b.1; have hn10 := b.2.1
  have hl := (b.2.2 s hs).2.2.1
  intro m
  induction m with
  | zero => intro i hi hm; omega
  | succ m ih =>
    intro i hi hm
    refine Wp_iload_n dX0_lengthOf_2 rfl 0 rfl ?_
    refine Wp_iconst (v := (nI (4))) dX0_lengthOf_3 (by decide) ?_
    refine Wp_icmp_ge (tgt := 24) dX0_lengthOf_4 (by decide) (nI_toInt (by omega)) (nI_toInt (by omega)) (fun c_4 => ?_) (fun c_4 => ?_)
    · refine Wp_iload_n dX0_lengthOf_24 rfl 0 rfl ?_
      exact Wp_iret rfl ⟨rfl, rfl, _, rfl, ⟨by rw [show i = ln s by omega], rfl⟩⟩ (Nat.le_refl _) (Nat.le_refl _) dX0_lengthOf_25
    · refine Wp_aload_n dX0_lengthOf_7 rfl 1 rfl ?_
      refine Wp_iload_n dX0_lengthOf_8 rfl 2 rfl ?_
      refine Wp_iload_n dX0_lengthOf_9 rfl 0 rfl ?_
      refine Wp_callVg (c_X0_letterOf hB hk b (s := s) (i := i) (by omega) (by omega)) YV_X0_letterOf ml_X0_45 hB rfl dX0_lengthOf_10 (by omega) (by decide) (by omega) (by omega) rfl rfl (Nat.le_of_ble_eq_true rfl) ?_
      refine Wp_bipush (v := ((-9))) dX0_lengthOf_13 (by decide) ?_
      refine Wp_icmp_eq (tgt := 24) dX0_lengthOf_15 (by decide) (rfl) ((by decide : ((-9) : Int32).toInt = (-9))) (fun c_15 => ?_) (fun c_15 => ?_)
      · have q0 := (ltI_9 (BK_dg b hs i)).mp c_15
        have q1 : ¬ i < ln s := by
          intro q; simp [dg, q] at q0
        refine Wp_iload_n dX0_lengthOf_24 rfl 0 rfl ?_
        exact Wp_iret rfl ⟨rfl, rfl, _, rfl, ⟨by rw [show i = ln s by omega], rfl⟩⟩ (Nat.le_refl _) (Nat.le_refl _) dX0_lengthOf_25
      · have q1 : i < ln s := by
          rcases Nat.lt_or_ge i (ln s) with q | q
          · exact q
          · exact absurd ((ltI_9 (BK_dg b hs i)).mpr (by unfold dg; rw [if_neg (by omega)])) c_15
        refine Wp_iinc (x := (nI ((i + 1)))) (lv' := [(2, .int (nI ((i + 1)))), (0, .ref (ad (h))), (1, .int (nI (s)))]) dX0_lengthOf_18 0 rfl (w_inc1 _) (by decide) rfl ?_
        refine Wp_goto (tgt := 2) dX0_lengthOf_21 (by decide) ?_
        exact ih (i + 1) (by omega) (by omega)
theorem c_X0_lengthOf {E : wE} {S : List wK} {ad : Nat → Nat} {V : wV} {h c z k : Nat} (hB : S[h]? = some (.inl (0, [some (some c), some (some z), some (some k), none, none])))(hk : S[k]? = some (.inr (.inl (false, 10)))) {n : Nat} {ln : Nat → Nat} {lt : Nat → Nat → Nat} (b : BK V h k n ln lt) {s : Nat} (hs : s < n) : w_C E mX0_lengthOf (w_R 2 0 0) 0 0 [.ref (ad (h)), .int (nI (s))] S ad V (w_i S ad (fun r V' => r = nI (ln s) ∧ V' = V)) := by
  refine w_C.of (by decide) (Nat.le_of_ble_eq_true rfl) ?_
  show Wp _ _ _ _ _ _ _ _ _ [(0, .ref (ad (h))), (1, .int (nI (s)))] [] S ad V
  refine Wp_iconst (v := (nI (0))) dX0_lengthOf_0 (by decide) ?_
  refine Wp_istore_n (lv' := [(2, .int (nI (0))), (0, .ref (ad (h))), (1, .int (nI (s)))]) dX0_lengthOf_1 rfl (by decide) rfl ?_
  exact lp_X0_lengthOf hB hk b hs 5 0 (by omega) (by omega)
/-- how many of the first t sentences are ahead of one -/
def rkd (f : Nat → Nat) (x : Nat) : Nat → Nat
  | 0 => 0
  | t + 1 => rkd f x t + (if f t < x then 1 else 0)
theorem rkd_le (f : Nat → Nat) (x t : Nat) : rkd f x t ≤ t := by
  induction t with
  | zero => simp [rkd]
  | succ t ih => simp only [rkd]; split <;> omega
theorem lp_X0_rankOf {E : wE} {S : List wK} {ad : Nat → Nat} {V : wV} {h c z k : Nat} (hB : S[h]? = some (.inl (0, [some (some c), some (some z), some (some k), none, none])))(hk : S[k]? = some (.inr (.inl (false, 10)))) {n : Nat} {ln : Nat → Nat} {lt : Nat → Nat → Nat} (b : BK V h k n ln lt) {s : Nat} (hs : s < n) : ∀ (m : Nat) (t : Nat), t ≤ n → n < t + m → Wp E mX0_rankOf (w_R 1 0 0) (w_i S ad (fun r V' => r = nI (rkd (fun t => pkd (dg ln lt t)) (pkd (dg ln lt s)) n) ∧ V' = V)) 0 0 0 0 15 [(3, .int (nI (t))), (2, .int (nI (rkd (fun t => pkd (dg ln lt t)) (pkd (dg ln lt s)) t))), (0, .ref (ad (h))), (1, .int (nI (s)))] [] S ad V := by
  have hn := b.1; have hn10 := b.2.1
  have hps := pkd_lt (fun i => BK_dg b hs i)
  intro m
  induction m with
  | zero => intro t ht hm; omega
  | succ m ih =>
    intro t ht hm
    refine Wp_iload_n dX0_rankOf_15 rfl 0 rfl ?_
    refine Wp_aload_n dX0_rankOf_16 rfl 2 rfl ?_
    refine Wp_get (x := (nI (n))) fk_X0_24 hB rfl hn dX0_rankOf_17 ?_
    refine Wp_icmp_ge (tgt := 47) dX0_rankOf_20 (by decide) (nI_toInt (by omega)) (nI_toInt (by omega)) (fun c_20 => ?_) (fun c_20 => ?_)
    · refine Wp_iload_n dX0_rankOf_47 rfl 1 rfl ?_
      exact Wp_iret rfl ⟨rfl, rfl, _, rfl, ⟨by rw [show t = n by omega], rfl⟩⟩ (Nat.le_refl _) (Nat.le_refl _) dX0_rankOf_48
    · have hpt := pkd_lt (fun i => BK_dg b (show t < n by omega) i)
      have hrk := rkd_le (fun t => pkd (dg ln lt t)) (pkd (dg ln lt s)) t
      refine Wp_aload_n dX0_rankOf_23 rfl 2 rfl ?_
      refine Wp_getr fk_X0_18 hB rfl dX0_rankOf_24 ?_
      refine Wp_iload_n dX0_rankOf_27 rfl 0 rfl ?_
      refine Wp_ild (n := t) (y := (nI (pkd (dg ln lt t)))) hk rfl (by omega) (by decide) (b.2.2 t (by omega)).1 dX0_rankOf_28 ?_
      refine Wp_aload_n dX0_rankOf_29 rfl 2 rfl ?_
      refine Wp_getr fk_X0_18 hB rfl dX0_rankOf_30 ?_
      refine Wp_iload_n dX0_rankOf_33 rfl 3 rfl ?_
      refine Wp_ild (n := s) (y := (nI (pkd (dg ln lt s)))) hk rfl (by omega) (by decide) (b.2.2 s hs).1 dX0_rankOf_34 ?_
      refine Wp_icmp_ge (tgt := 41) dX0_rankOf_35 (by decide) (nI_toInt (by omega)) (nI_toInt (by omega)) (fun c_35 => ?_) (fun c_35 => ?_)
      · have hq : rkd (fun t => pkd (dg ln lt t)) (pkd (dg ln lt s)) (t + 1) = rkd (fun t => pkd (dg ln lt t)) (pkd (dg ln lt s)) t := by
          simp only [rkd]; rw [if_neg (by omega)]; rfl
        refine Wp_iinc (x := (nI ((t + 1)))) (lv' := [(3, .int (nI ((t + 1)))), (2, .int (nI (rkd (fun t => pkd (dg ln lt t)) (pkd (dg ln lt s)) t))), (0, .ref (ad (h))), (1, .int (nI (s)))]) dX0_rankOf_41 0 rfl (w_inc1 _) (by decide) rfl ?_
        refine Wp_goto (tgt := 15) dX0_rankOf_44 (by decide) ?_
        rw [← hq]
        exact ih (t + 1) (by omega) (by omega)
      · have hq : rkd (fun t => pkd (dg ln lt t)) (pkd (dg ln lt s)) (t + 1) = rkd (fun t => pkd (dg ln lt t)) (pkd (dg ln lt s)) t + 1 := by
          simp only [rkd]; rw [if_pos (by omega)]
        refine Wp_iinc (x := (nI ((rkd (fun t => pkd (dg ln lt t)) (pkd (dg ln lt s)) t + 1)))) (lv' := [(2, .int (nI ((rkd (fun t => pkd (dg ln lt t)) (pkd (dg ln lt s)) t + 1)))), (3, .int (nI (t))), (0, .ref (ad (h))), (1, .int (nI (s)))]) dX0_rankOf_38 1 rfl (w_inc1 _) (by decide) rfl ?_
        refine Wp_iinc (x := (nI ((t + 1)))) (lv' := [(3, .int (nI ((t + 1)))), (2, .int (nI ((rkd (fun t => pkd (dg ln lt t)) (pkd (dg ln lt s)) t + 1)))), (0, .ref (ad (h))), (1, .int (nI (s)))]) dX0_rankOf_41 1 rfl (w_inc1 _) (by decide) rfl ?_
        refine Wp_goto (tgt := 15) dX0_rankOf_44 (by decide) ?_
        rw [← hq]
        exact ih (t + 1) (by omega) (by omega)
theorem c_X0_rankOf {E : wE} {S : List wK} {ad : Nat → Nat} {V : wV} {h c z k : Nat} (hB : S[h]? = some (.inl (0, [some (some c), some (some z), some (some k), none, none])))(hk : S[k]? = some (.inr (.inl (false, 10)))) {n : Nat} {ln : Nat → Nat} {lt : Nat → Nat → Nat} (b : BK V h k n ln lt) {s : Nat} (hs : s < n) : w_C E mX0_rankOf (w_R 1 0 0) 0 0 [.ref (ad (h)), .int (nI (s))] S ad V (w_i S ad (fun r V' => r = nI (rkd (fun t => pkd (dg ln lt t)) (pkd (dg ln lt s)) n) ∧ V' = V)) := by
  refine w_C.of (by decide) (Nat.le_of_ble_eq_true rfl) ?_
  show Wp _ _ _ _ _ _ _ _ _ [(0, .ref (ad (h))), (1, .int (nI (s)))] [] S ad V
  have hn := b.1; have hn10 := b.2.1
  refine Wp_aload_n dX0_rankOf_0 rfl 0 rfl ?_
  refine Wp_iload_n dX0_rankOf_1 rfl 1 rfl ?_
  refine Wp_callVg (c_X0_has hB hn hn10 _) YV_X0_has ml_X0_41 hB rfl dX0_rankOf_2 (by omega) (by decide) (by omega) (by omega) rfl rfl (Nat.le_of_ble_eq_true rfl) ?_
  refine Wp_ifne_b (tgt := 11) dX0_rankOf_5 (by decide) (fun c_5 => ?_) (fun c_5 => absurd c_5 (by rw [has_nI (by omega)]; simp; omega))
  refine Wp_iconst (v := (nI (0))) dX0_rankOf_11 (by decide) ?_
  refine Wp_istore_n (lv' := [(2, .int (nI (0))), (0, .ref (ad (h))), (1, .int (nI (s)))]) dX0_rankOf_12 rfl (by decide) rfl ?_
  refine Wp_iconst (v := (nI (0))) dX0_rankOf_13 (by decide) ?_
  refine Wp_istore_n (lv' := [(3, .int (nI (0))), (2, .int (nI (0))), (0, .ref (ad (h))), (1, .int (nI (s)))]) dX0_rankOf_14 rfl (by decide) rfl ?_
  exact lp_X0_rankOf hB hk b hs (n + 1) 0 (by omega) (by omega)
end
section
/-! THE BOOK, from afar; the first of a letter; reset, copy -/
/-- F: what was found among the first t, one more than its number; 0: nothing -/
def ffd (ln : Nat → Nat) (lt : Nat → Nat → Nat) (L F t : Nat) : Prop := (F = 0 ∧ ∀ u, u < t → lt u 0 < L) ∨ (F ≠ 0 ∧ F ≤ t ∧ L ≤ lt (F - 1) 0 ∧ ∀ u, u < t → L ≤ lt u 0 → pkd (dg ln lt (F - 1)) ≤ pkd (dg ln lt u))
theorem dg0 {V : wV} {h k n : Nat} {ln : Nat → Nat} {lt : Nat → Nat → Nat} (b : BK V h k n ln lt) {s : Nat} (hs : s < n) : dg ln lt s 0 = lt s 0 + 1 := by
  unfold dg; rw [if_pos (by have := (b.2.2 s hs).2.1; omega)]
theorem ltI_9b {d : Nat} (h : d < 2 ^ 31) (q : (ltI d).toInt = -9) : d = 0 := by
  by_cases h0 : d = 0
  · exact h0
  · rw [ltI_s h0, nI_toInt (by omega)] at q; omega
theorem ffd_low {ln : Nat → Nat} {lt : Nat → Nat → Nat} {L F t : Nat} (h : ffd ln lt L F t) (hl : lt t 0 < L) : ffd ln lt L F (t + 1) := by
  rcases h with ⟨h1, h2⟩ | ⟨h1, h2, h3, h4⟩
  · refine Or.inl ⟨h1, fun u hu => ?_⟩
    rcases Nat.lt_or_ge u t with q | q
    · exact h2 u q
    · rw [show u = t by omega]; exact hl
  · refine Or.inr ⟨h1, by omega, h3, fun u hu hL => ?_⟩
    rcases Nat.lt_or_ge u t with q | q
    · exact h4 u q hL
    · rw [show u = t by omega] at hL; omega
theorem ffd_keep {ln : Nat → Nat} {lt : Nat → Nat → Nat} {L F t : Nat} (h : ffd ln lt L F t) (h0 : F ≠ 0) (hl : pkd (dg ln lt (F - 1)) ≤ pkd (dg ln lt t)) : ffd ln lt L F (t + 1) := by
  rcases h with ⟨h1, h2⟩ | ⟨h1, h2, h3, h4⟩
  · exact absurd h1 h0
  · refine Or.inr ⟨h1, by omega, h3, fun u hu hL => ?_⟩
    rcases Nat.lt_or_ge u t with q | q
    · exact h4 u q hL
    · rw [show u = t by omega]; exact hl
theorem ffd_new {ln : Nat → Nat} {lt : Nat → Nat → Nat} {L F t : Nat} (h : ffd ln lt L F t) (hL : L ≤ lt t 0) (hl : F = 0 ∨ pkd (dg ln lt t) < pkd (dg ln lt (F - 1))) : ffd ln lt L (t + 1) (t + 1) := by
  refine Or.inr ⟨by omega, by omega, hL, fun u hu hu2 => ?_⟩
  show pkd (dg ln lt t) ≤ _
  rcases Nat.lt_or_ge u t with q | q
  · rcases h with ⟨h1, h2⟩ | ⟨h1, h2, h3, h4⟩
    · have := h2 u q; omega
    · have := h4 u q hu2
      rcases hl with e | e <;> omega
  · rw [show u = t by omega]; exact Nat.le_refl _
theorem lp_X0_firstFrom {E : wE} {S : List wK} {ad : Nat → Nat} {V : wV} {h c z k : Nat} (hB : S[h]? = some (.inl (0, [some (some c), some (some z), some (some k), none, none])))(hk : S[k]? = some (.inr (.inl (false, 10)))) {n : Nat} {ln : Nat → Nat} {lt : Nat → Nat → Nat} (b : BK V h k n ln lt) {L : Nat} (hL : L < 8) : ∀ (m : Nat) (t : Nat) (F : Nat), t ≤ n → n < t + m → ffd ln lt L F t → Wp E mX0_firstFrom (w_R 2 0 0) (w_i S ad (fun r V' => (∃ F, r = ltI F ∧ ffd ln lt L F n) ∧ V' = V)) 0 0 0 0 5 [(3, .int (nI (t))), (2, .int (ltI F)), (0, .ref (ad (h))), (1, .int (nI (L)))] [] S ad V := by
  have hn := b.1; have hn10 := b.2.1
  intro m
  induction m with
  | zero => intro t F ht hm hF; omega
  | succ m ih =>
    intro t F ht hm hF
    refine Wp_iload_n dX0_firstFrom_5 rfl 0 rfl ?_
    refine Wp_aload_n dX0_firstFrom_6 rfl 2 rfl ?_
    refine Wp_get (x := (nI (n))) fk_X0_24 hB rfl hn dX0_firstFrom_7 ?_
    refine Wp_icmp_ge (tgt := 64) dX0_firstFrom_10 (by decide) (nI_toInt (by omega)) (nI_toInt (by omega)) (fun c_10 => ?_) (fun c_10 => ?_)
    · refine Wp_iload_n dX0_firstFrom_64 rfl 1 rfl ?_
      exact Wp_iret rfl ⟨rfl, rfl, _, rfl, ⟨⟨F, rfl, by rw [show n = t by omega]; exact hF⟩, rfl⟩⟩ (Nat.le_refl _) (Nat.le_refl _) dX0_firstFrom_65
    · have d0 := dg0 b (show t < n by omega)
      have l0 := (b.2.2 t (by omega)).2.2.2 0 (by have := (b.2.2 t (by omega)).2.1; omega)
      have hFt : F ≤ t := by rcases hF with ⟨q, -⟩ | ⟨-, q, -⟩ <;> omega
      have hpt := pkd_lt (fun i => BK_dg b (show t < n by omega) i)
      refine Wp_aload_n dX0_firstFrom_13 rfl 2 rfl ?_
      refine Wp_iload_n dX0_firstFrom_14 rfl 0 rfl ?_
      refine Wp_iconst (v := (nI (0))) dX0_firstFrom_15 (by decide) ?_
      refine Wp_callVg (c_X0_letterOf hB hk b (s := t) (i := 0) (by omega) (by omega)) YV_X0_letterOf ml_X0_45 hB rfl dX0_firstFrom_16 (by omega) (by decide) (by omega) (by omega) rfl rfl (Nat.le_of_ble_eq_true rfl) ?_
      refine Wp_iload_n dX0_firstFrom_19 rfl 3 rfl ?_
      refine Wp_icmp_lt (tgt := 27) dX0_firstFrom_20 (by decide) ((show (ltI (dg ln lt t 0)).toInt = (lt t 0 : Int) by rw [d0]; exact nI_toInt (by omega))) (nI_toInt (by omega)) (fun c_20 => ?_) (fun c_20 => ?_)
      · refine Wp_iconst (v := (nI (0))) dX0_firstFrom_27 (by decide) ?_
        refine Wp_istore (lv' := [(4, .int (nI (0))), (3, .int (nI (t))), (2, .int (ltI F)), (0, .ref (ad (h))), (1, .int (nI (L)))]) dX0_firstFrom_28 (by decide) rfl ?_
        refine Wp_iload dX0_firstFrom_30 0 rfl ?_
        refine Wp_if_eq (tgt := 58) dX0_firstFrom_32 (by decide) (nI_toInt (by omega)) (fun c_32 => ?_) (fun c_32 => absurd c_32 (by omega))
        refine Wp_iinc (x := nI (t + 1)) (lv' := [(3, .int (nI (t + 1))), (4, .int (nI (0))), (2, .int (ltI F)), (0, .ref (ad (h))), (1, .int (nI (L)))]) dX0_firstFrom_58 1 rfl (w_inc1 _) (by decide) rfl ?_
        refine Wp_goto (tgt := 5) dX0_firstFrom_61 (by decide) ?_
        refine Wp_lv (lv2 := [(3, .int (nI (t + 1))), (2, .int (ltI F)), (0, .ref (ad h)), (1, .int (nI L))]) [0, 2, 3, 4] rfl ?_
        exact ih (t + 1) F (by omega) (by omega) (by first | exact ffd_low hF (by omega) | exact ffd_keep hF hF0 (by omega))
      · refine Wp_iconst (v := (nI (1))) dX0_firstFrom_23 (by decide) ?_
        refine Wp_goto (tgt := 28) dX0_firstFrom_24 (by decide) ?_
        refine Wp_istore (lv' := [(4, .int (nI (1))), (3, .int (nI (t))), (2, .int (ltI F)), (0, .ref (ad (h))), (1, .int (nI (L)))]) dX0_firstFrom_28 (by decide) rfl ?_
        refine Wp_iload dX0_firstFrom_30 0 rfl ?_
        refine Wp_if_eq (tgt := 58) dX0_firstFrom_32 (by decide) (nI_toInt (by omega)) (fun c_32 => absurd c_32 (by omega)) (fun c_32 => ?_)
        refine Wp_iload_n dX0_firstFrom_35 rfl 2 rfl ?_
        refine Wp_bipush (v := ((-9))) dX0_firstFrom_36 (by decide) ?_
        refine Wp_icmp_eq (tgt := 56) dX0_firstFrom_38 (by decide) (rfl) ((by decide : ((-9) : Int32).toInt = (-9))) (fun c_38 => ?_) (fun c_38 => ?_)
        · have hF0 : F = 0 := ltI_9b (by omega) c_38
          refine Wp_iload_n dX0_firstFrom_56 rfl 1 rfl ?_
          refine Wp_istore_n (lv' := [(2, .int (nI (t))), (4, .int (nI (1))), (3, .int (nI (t))), (0, .ref (ad (h))), (1, .int (nI (L)))]) dX0_firstFrom_57 rfl (by decide) rfl ?_
          refine Wp_iinc (x := nI (t + 1)) (lv' := [(3, .int (nI (t + 1))), (2, .int (nI (t))), (4, .int (nI (1))), (0, .ref (ad (h))), (1, .int (nI (L)))]) dX0_firstFrom_58 2 rfl (w_inc1 _) (by decide) rfl ?_
          refine Wp_goto (tgt := 5) dX0_firstFrom_61 (by decide) ?_
          refine Wp_lv (lv2 := [(3, .int (nI (t + 1))), (2, .int (nI (t))), (0, .ref (ad h)), (1, .int (nI L))]) [0, 1, 3, 4] rfl ?_
          rw [show nI t = ltI (t + 1) from rfl]
          exact ih (t + 1) (t + 1) (by omega) (by omega) (ffd_new hF (by omega) (by omega))
        · have hF0 : F ≠ 0 := fun q => c_38 (by rw [q]; decide)
          have hpF := pkd_lt (fun i => BK_dg b (show F - 1 < n by omega) i)
          refine Wp_aload_n dX0_firstFrom_41 rfl 3 rfl ?_
          refine Wp_getr fk_X0_18 hB rfl dX0_firstFrom_42 ?_
          refine Wp_iload_n dX0_firstFrom_45 rfl 1 rfl ?_
          refine Wp_ild (n := t) (y := (nI (pkd (dg ln lt t)))) hk rfl (by omega) (by decide) (b.2.2 t (by omega)).1 dX0_firstFrom_46 ?_
          refine Wp_aload_n dX0_firstFrom_47 rfl 3 rfl ?_
          refine Wp_getr fk_X0_18 hB rfl dX0_firstFrom_48 ?_
          refine Wp_iload_n dX0_firstFrom_51 rfl 2 rfl ?_
          refine Wp_ild (n := (F - 1)) (y := (nI (pkd (dg ln lt (F - 1))))) hk (ltI_s hF0) (by omega) (by decide) (b.2.2 (F - 1) (by omega)).1 dX0_firstFrom_52 ?_
          refine Wp_icmp_ge (tgt := 58) dX0_firstFrom_53 (by decide) (nI_toInt (by omega)) (nI_toInt (by omega)) (fun c_53 => ?_) (fun c_53 => ?_)
          · refine Wp_iinc (x := nI (t + 1)) (lv' := [(3, .int (nI (t + 1))), (4, .int (nI (1))), (2, .int (ltI F)), (0, .ref (ad (h))), (1, .int (nI (L)))]) dX0_firstFrom_58 1 rfl (w_inc1 _) (by decide) rfl ?_
            refine Wp_goto (tgt := 5) dX0_firstFrom_61 (by decide) ?_
            refine Wp_lv (lv2 := [(3, .int (nI (t + 1))), (2, .int (ltI F)), (0, .ref (ad h)), (1, .int (nI L))]) [0, 2, 3, 4] rfl ?_
            exact ih (t + 1) F (by omega) (by omega) (by first | exact ffd_low hF (by omega) | exact ffd_keep hF hF0 (by omega))
          · refine Wp_iload_n dX0_firstFrom_56 rfl 1 rfl ?_
            refine Wp_istore_n (lv' := [(2, .int (nI (t))), (4, .int (nI (1))), (3, .int (nI (t))), (0, .ref (ad (h))), (1, .int (nI (L)))]) dX0_firstFrom_57 rfl (by decide) rfl ?_
            refine Wp_iinc (x := nI (t + 1)) (lv' := [(3, .int (nI (t + 1))), (2, .int (nI (t))), (4, .int (nI (1))), (0, .ref (ad (h))), (1, .int (nI (L)))]) dX0_firstFrom_58 2 rfl (w_inc1 _) (by decide) rfl ?_
            refine Wp_goto (tgt := 5) dX0_firstFrom_61 (by decide) ?_
            refine Wp_lv (lv2 := [(3, .int (nI (t + 1))), (2, .int (nI (t))), (0, .ref (ad h)), (1, .int (nI L))]) [0, 1, 3, 4] rfl ?_
            rw [show nI t = ltI (t + 1) from rfl]
            exact ih (t + 1) (t + 1) (by omega) (by omega) (ffd_new hF (by omega) (by omega))
theorem c_X0_firstFrom {E : wE} {S : List wK} {ad : Nat → Nat} {V : wV} {h c z k : Nat} (hB : S[h]? = some (.inl (0, [some (some c), some (some z), some (some k), none, none])))(hk : S[k]? = some (.inr (.inl (false, 10)))) {n : Nat} {ln : Nat → Nat} {lt : Nat → Nat → Nat} (b : BK V h k n ln lt) {L : Nat} (hL : L < 8) : w_C E mX0_firstFrom (w_R 2 0 0) 0 0 [.ref (ad (h)), .int (nI (L))] S ad V (w_i S ad (fun r V' => (∃ F, r = ltI F ∧ ffd ln lt L F n) ∧ V' = V)) := by
  refine w_C.of (by decide) (Nat.le_of_ble_eq_true rfl) ?_
  show Wp _ _ _ _ _ _ _ _ _ [(0, .ref (ad (h))), (1, .int (nI (L)))] [] S ad V
  refine Wp_bipush (v := ((-9))) dX0_firstFrom_0 (by decide) ?_
  refine Wp_istore_n (lv' := [(2, .int ((-9))), (0, .ref (ad (h))), (1, .int (nI (L)))]) dX0_firstFrom_2 rfl (by decide) rfl ?_
  refine Wp_iconst (v := (nI (0))) dX0_firstFrom_3 (by decide) ?_
  refine Wp_istore_n (lv' := [(3, .int (nI (0))), (2, .int ((-9))), (0, .ref (ad (h))), (1, .int (nI (L)))]) dX0_firstFrom_4 rfl (by decide) rfl ?_
  exact lp_X0_firstFrom hB hk b hL (n + 1) 0 0 (by omega) (by omega) (Or.inl ⟨rfl, fun u hu => by omega⟩)
theorem c_X0_isBlurred {E : wE} {S : List wK} {ad : Nat → Nat} {V : wV} {h c z k : Nat} (hB : S[h]? = some (.inl (0, [some (some c), some (some z), some (some k), none, none])))(hc : S[c]? = some (.inr (.inl (false, 8))))(hz : S[z]? = some (.inr (.inl (false, 8)))) {col siz : Nat → Nat} (g : FG V c z col siz) {d e : Nat} (hd : d ≤ 8) (he : e ≤ 9) {x : Int32} (hx : x = ltI d) : w_C E mX0_isBlurred (w_R 0 0 0) 0 0 [.ref (ad (h)), .int (x), .int (nI (e))] S ad V (w_i S ad (fun r V' => r = bI (decide (d ≠ 0 ∧ siz (d - 1) < e)) ∧ V' = V)) := by
  refine w_C.of (by decide) (Nat.le_of_ble_eq_true rfl) ?_
  show Wp _ _ _ _ _ _ _ _ _ [(0, .ref (ad (h))), (1, .int (x)), (2, .int (nI (e)))] [] S ad V
  by_cases h0 : d = 0
  · have hx : x = -9 := by rw [hx, h0]; rfl
    subst hx
    refine Wp_iload_n dX0_isBlurred_0 rfl 1 rfl ?_
    refine Wp_if_lt (tgt := 24) dX0_isBlurred_1 (by decide) ((by decide : ((-9) : Int32).toInt = (-9))) (fun c_1 => ?_) (fun c_1 => absurd c_1 (by omega))
    refine Wp_iconst (v := (nI (0))) dX0_isBlurred_24 (by decide) ?_
    exact Wp_zret (b := false) rfl rfl ⟨rfl, rfl, _, rfl, ⟨congrArg bI (decide_eq_false (by omega)).symm, rfl⟩⟩ (Nat.le_refl _) (Nat.le_refl _) dX0_isBlurred_25
  · have hx : x = nI (d - 1) := by rw [hx, ltI_s h0]
    subst hx
    have g9 := g (d - 1) (by omega)
    refine Wp_iload_n dX0_isBlurred_0 rfl 1 rfl ?_
    refine Wp_if_lt (tgt := 24) dX0_isBlurred_1 (by decide) (nI_toInt (by omega)) (fun c_1 => ?_) (fun c_1 => ?_)
    · refine Wp_iconst (v := (nI (0))) dX0_isBlurred_24 (by decide) ?_
      exact Wp_zret (b := false) rfl rfl ⟨rfl, rfl, _, rfl, ⟨congrArg bI (decide_eq_false (by omega)).symm, rfl⟩⟩ (Nat.le_refl _) (Nat.le_refl _) dX0_isBlurred_25
    · refine Wp_iload_n dX0_isBlurred_4 rfl 1 rfl ?_
      refine Wp_bipush (v := (nI (8))) dX0_isBlurred_5 (by decide) ?_
      refine Wp_icmp_ge (tgt := 24) dX0_isBlurred_7 (by decide) (nI_toInt (by omega)) (nI_toInt (by omega)) (fun c_7 => ?_) (fun c_7 => ?_)
      · refine Wp_iconst (v := (nI (0))) dX0_isBlurred_24 (by decide) ?_
        exact Wp_zret (b := false) rfl rfl ⟨rfl, rfl, _, rfl, ⟨congrArg bI (decide_eq_false (by omega)).symm, rfl⟩⟩ (Nat.le_refl _) (Nat.le_refl _) dX0_isBlurred_25
      · refine Wp_aload_n dX0_isBlurred_10 rfl 0 rfl ?_
        refine Wp_getr fk_X0_15 hB rfl dX0_isBlurred_11 ?_
        refine Wp_iload_n dX0_isBlurred_14 rfl 1 rfl ?_
        refine Wp_ild (n := (d - 1)) (y := (nI (siz (d - 1)))) hz rfl (by omega) (by decide) g9.2.1 dX0_isBlurred_15 ?_
        refine Wp_iload_n dX0_isBlurred_16 rfl 2 rfl ?_
        refine Wp_icmp_ge (tgt := 24) dX0_isBlurred_17 (by decide) (nI_toInt (by omega)) (nI_toInt (by omega)) (fun c_17 => ?_) (fun c_17 => ?_)
        · refine Wp_iconst (v := (nI (0))) dX0_isBlurred_24 (by decide) ?_
          exact Wp_zret (b := false) rfl rfl ⟨rfl, rfl, _, rfl, ⟨congrArg bI (decide_eq_false (by omega)).symm, rfl⟩⟩ (Nat.le_refl _) (Nat.le_refl _) dX0_isBlurred_25
        · refine Wp_iconst (v := (nI (1))) dX0_isBlurred_20 (by decide) ?_
          refine Wp_goto (tgt := 25) dX0_isBlurred_21 (by decide) ?_
          exact Wp_zret (b := true) rfl rfl ⟨rfl, rfl, _, rfl, ⟨congrArg bI (decide_eq_true (by omega)).symm, rfl⟩⟩ (Nat.le_refl _) (Nat.le_refl _) dX0_isBlurred_25
def fmb (col siz : Nat → Nat) (e d d2 : Nat) : Prop := d = d2 ∨ (d ≠ 0 ∧ siz (d - 1) < e ∧ d2 ≠ 0 ∧ siz (d2 - 1) < e ∧ col (d - 1) = col (d2 - 1))
theorem fmb_dec (col siz : Nat → Nat) (e d d2 : Nat) : fmb col siz e d d2 ↔ (decide (d = d2) || (decide (d ≠ 0) && decide (siz (d - 1) < e) && decide (d2 ≠ 0) && decide (siz (d2 - 1) < e) && decide (col (d - 1) = col (d2 - 1)))) = true := by
  simp [fmb, and_assoc]
def fmbb (col siz : Nat → Nat) (e d d2 : Nat) : Bool := decide (d = d2) || (decide (d ≠ 0) && decide (siz (d - 1) < e) && decide (d2 ≠ 0) && decide (siz (d2 - 1) < e) && decide (col (d - 1) = col (d2 - 1)))
theorem fmbb_t {col siz : Nat → Nat} {e d d2 : Nat} (h : fmb col siz e d d2) : fmbb col siz e d d2 = true := (fmb_dec ..).mp h
theorem fmbb_f {col siz : Nat → Nat} {e d d2 : Nat} (h : ¬ fmb col siz e d d2) : fmbb col siz e d d2 = false := by
  cases q : fmbb col siz e d d2 with
  | false => rfl
  | true => exact absurd ((fmb_dec ..).mpr q) h
theorem c_X0_flagMayBe {E : wE} {S : List wK} {ad : Nat → Nat} {V : wV} {h c z k : Nat} (hB : S[h]? = some (.inl (0, [some (some c), some (some z), some (some k), none, none])))(hc : S[c]? = some (.inr (.inl (false, 8))))(hz : S[z]? = some (.inr (.inl (false, 8)))) {col siz : Nat → Nat} (g : FG V c z col siz) {d d2 e : Nat} (hd : d ≤ 8) (hd2 : d2 ≤ 8) (he : e ≤ 9) : w_C E mX0_flagMayBe (w_R 1 0 0) 0 0 [.ref (ad (h)), .int (ltI d), .int (ltI d2), .int (nI (e))] S ad V (w_i S ad (fun r V' => r = bI (fmbb col siz e d d2) ∧ V' = V)) := by
  refine w_C.of (by decide) (Nat.le_of_ble_eq_true rfl) ?_
  show Wp _ _ _ _ _ _ _ _ _ [(0, .ref (ad (h))), (1, .int (ltI d)), (2, .int (ltI d2)), (3, .int (nI (e)))] [] S ad V
  refine Wp_iload_n dX0_flagMayBe_0 rfl 1 rfl ?_
  refine Wp_iload_n dX0_flagMayBe_1 rfl 2 rfl ?_
  refine Wp_icmp_ne (tgt := 7) dX0_flagMayBe_2 (by decide) (rfl) (rfl) (fun c_2 => ?_) (fun c_2 => ?_)
  · have hne : d ≠ d2 := fun q => c_2 (by rw [q])
    refine Wp_aload_n dX0_flagMayBe_7 rfl 0 rfl ?_
    refine Wp_iload_n dX0_flagMayBe_8 rfl 1 rfl ?_
    refine Wp_iload_n dX0_flagMayBe_9 rfl 3 rfl ?_
    refine Wp_callVg (c_X0_isBlurred hB hc hz g hd he rfl) YV_X0_isBlurred ml_X0_53 hB rfl dX0_flagMayBe_10 (by omega) (by decide) (by omega) (by omega) rfl rfl (Nat.le_of_ble_eq_true rfl) ?_
    refine Wp_ifeq_b (tgt := 44) dX0_flagMayBe_13 (by decide) (fun c_13 => ?_) (fun c_13 => ?_)
    · have q1 := of_decide_eq_false c_13
      refine Wp_iconst (v := (nI (0))) dX0_flagMayBe_44 (by decide) ?_
      exact Wp_zret (b := false) rfl rfl ⟨rfl, rfl, _, rfl, ⟨congrArg bI (fmbb_f (by unfold fmb; omega)).symm, rfl⟩⟩ (Nat.le_refl _) (Nat.le_refl _) dX0_flagMayBe_45
    · have q1 := of_decide_eq_true c_13
      have g9 := g (d - 1) (by omega)
      refine Wp_aload_n dX0_flagMayBe_16 rfl 0 rfl ?_
      refine Wp_iload_n dX0_flagMayBe_17 rfl 2 rfl ?_
      refine Wp_iload_n dX0_flagMayBe_18 rfl 3 rfl ?_
      refine Wp_callVg (c_X0_isBlurred hB hc hz g hd2 he rfl) YV_X0_isBlurred ml_X0_53 hB rfl dX0_flagMayBe_19 (by omega) (by decide) (by omega) (by omega) rfl rfl (Nat.le_of_ble_eq_true rfl) ?_
      refine Wp_ifeq_b (tgt := 44) dX0_flagMayBe_22 (by decide) (fun c_22 => ?_) (fun c_22 => ?_)
      · have q2 := of_decide_eq_false c_22
        refine Wp_iconst (v := (nI (0))) dX0_flagMayBe_44 (by decide) ?_
        exact Wp_zret (b := false) rfl rfl ⟨rfl, rfl, _, rfl, ⟨congrArg bI (fmbb_f (by unfold fmb; omega)).symm, rfl⟩⟩ (Nat.le_refl _) (Nat.le_refl _) dX0_flagMayBe_45
      · have q2 := of_decide_eq_true c_22
        have g8 := g (d2 - 1) (by omega)
        refine Wp_aload_n dX0_flagMayBe_25 rfl 0 rfl ?_
        refine Wp_getr fk_X0_9 hB rfl dX0_flagMayBe_26 ?_
        refine Wp_iload_n dX0_flagMayBe_29 rfl 1 rfl ?_
        refine Wp_ild (n := (d - 1)) (y := (nI (col (d - 1)))) hc (ltI_s (by omega)) (by omega) (by decide) g9.1 dX0_flagMayBe_30 ?_
        refine Wp_aload_n dX0_flagMayBe_31 rfl 0 rfl ?_
        refine Wp_getr fk_X0_9 hB rfl dX0_flagMayBe_32 ?_
        refine Wp_iload_n dX0_flagMayBe_35 rfl 2 rfl ?_
        refine Wp_ild (n := (d2 - 1)) (y := (nI (col (d2 - 1)))) hc (ltI_s (by omega)) (by omega) (by decide) g8.1 dX0_flagMayBe_36 ?_
        refine Wp_icmp_ne (tgt := 44) dX0_flagMayBe_37 (by decide) (nI_toInt (by omega)) (nI_toInt (by omega)) (fun c_37 => ?_) (fun c_37 => ?_)
        · refine Wp_iconst (v := (nI (0))) dX0_flagMayBe_44 (by decide) ?_
          exact Wp_zret (b := false) rfl rfl ⟨rfl, rfl, _, rfl, ⟨congrArg bI (fmbb_f (by unfold fmb; omega)).symm, rfl⟩⟩ (Nat.le_refl _) (Nat.le_refl _) dX0_flagMayBe_45
        · refine Wp_iconst (v := (nI (1))) dX0_flagMayBe_40 (by decide) ?_
          refine Wp_goto (tgt := 45) dX0_flagMayBe_41 (by decide) ?_
          exact Wp_zret (b := true) rfl rfl ⟨rfl, rfl, _, rfl, ⟨congrArg bI (fmbb_t (by unfold fmb; omega)).symm, rfl⟩⟩ (Nat.le_refl _) (Nat.le_refl _) dX0_flagMayBe_45
  · have heq := ltI_inj hd hd2 c_2
    refine Wp_iconst (v := (nI (1))) dX0_flagMayBe_5 (by decide) ?_
    exact Wp_zret (b := true) rfl rfl ⟨rfl, rfl, _, rfl, ⟨congrArg bI (fmbb_t (by unfold fmb; omega)).symm, rfl⟩⟩ (Nat.le_refl _) (Nat.le_refl _) dX0_flagMayBe_6
def tld (col siz : Nat → Nat) (ln : Nat → Nat) (lt : Nat → Nat → Nat) (e s t : Nat) : Bool := fmbb col siz e (dg ln lt s 0) (dg ln lt t 0) && fmbb col siz e (dg ln lt s 1) (dg ln lt t 1) && fmbb col siz e (dg ln lt s 2) (dg ln lt t 2) && fmbb col siz e (dg ln lt s 3) (dg ln lt t 3)
theorem tld_t {col siz ln : Nat → Nat} {lt : Nat → Nat → Nat} {e s t : Nat} (h : ∀ i, i < 4 → fmbb col siz e (dg ln lt s i) (dg ln lt t i) = true) : tld col siz ln lt e s t = true := by
  simp [tld, h 0 (by omega), h 1 (by omega), h 2 (by omega), h 3 (by omega)]
theorem tld_f {col siz ln : Nat → Nat} {lt : Nat → Nat → Nat} {e s t i : Nat} (hi : i < 4) (h : fmbb col siz e (dg ln lt s i) (dg ln lt t i) = false) : tld col siz ln lt e s t = false := by
  rcases (show i = 0 ∨ i = 1 ∨ i = 2 ∨ i = 3 by omega) with rfl | rfl | rfl | rfl <;> simp [tld, h]
theorem lp_X0_mayBe {E : wE} {S : List wK} {ad : Nat → Nat} {V : wV} {h c z k : Nat} (hB : S[h]? = some (.inl (0, [some (some c), some (some z), some (some k), none, none])))(hc : S[c]? = some (.inr (.inl (false, 8))))(hz : S[z]? = some (.inr (.inl (false, 8))))(hk : S[k]? = some (.inr (.inl (false, 10)))) {n : Nat} {ln : Nat → Nat} {lt : Nat → Nat → Nat} (b : BK V h k n ln lt)  {col siz : Nat → Nat} (g : FG V c z col siz) {s t e : Nat} (hs : s < n) (ht : t < n) (he : e ≤ 9) : ∀ (m : Nat) (i : Nat), i ≤ 4 → 4 < i + m → (∀ j, j < i → fmbb col siz e (dg ln lt s j) (dg ln lt t j) = true) → Wp E mX0_mayBe (w_R 2 0 0) (w_i S ad (fun r V' => r = bI (tld col siz ln lt e s t) ∧ V' = V)) 0 0 0 0 3 [(4, .int (nI (i))), (0, .ref (ad (h))), (1, .int (nI (s))), (2, .int (nI (t))), (3, .int (nI (e)))] [] S ad V := by
  have hn := b.1; have hn10 := b.2.1
  intro m
  induction m with
  | zero => intro i hi hm hv; omega
  | succ m ih =>
    intro i hi hm hv
    refine Wp_iload dX0_mayBe_3 0 rfl ?_
    refine Wp_iconst (v := (nI (4))) dX0_mayBe_5 (by decide) ?_
    refine Wp_icmp_ge (tgt := 39) dX0_mayBe_6 (by decide) (nI_toInt (by omega)) (nI_toInt (by omega)) (fun c_6 => ?_) (fun c_6 => ?_)
    · refine Wp_iconst (v := (nI (1))) dX0_mayBe_39 (by decide) ?_
      exact Wp_zret (b := true) rfl rfl ⟨rfl, rfl, _, rfl, ⟨congrArg bI (tld_t (fun j hj => hv j (by omega))).symm, rfl⟩⟩ (Nat.le_refl _) (Nat.le_refl _) dX0_mayBe_40
    · refine Wp_aload_n dX0_mayBe_9 rfl 1 rfl ?_
      refine Wp_aload_n dX0_mayBe_10 rfl 1 rfl ?_
      refine Wp_iload_n dX0_mayBe_11 rfl 2 rfl ?_
      refine Wp_iload dX0_mayBe_12 0 rfl ?_
      refine Wp_callVg (c_X0_letterOf hB hk b (s := s) (i := i) (by omega) (by omega)) YV_X0_letterOf ml_X0_45 hB rfl dX0_mayBe_14 (by omega) (by decide) (by omega) (by omega) rfl rfl (Nat.le_of_ble_eq_true rfl) ?_
      refine Wp_aload_n dX0_mayBe_17 rfl 1 rfl ?_
      refine Wp_iload_n dX0_mayBe_18 rfl 3 rfl ?_
      refine Wp_iload dX0_mayBe_19 0 rfl ?_
      refine Wp_callVg (c_X0_letterOf hB hk b (s := t) (i := i) (by omega) (by omega)) YV_X0_letterOf ml_X0_45 hB rfl dX0_mayBe_21 (by omega) (by decide) (by omega) (by omega) rfl rfl (Nat.le_of_ble_eq_true rfl) ?_
      refine Wp_iload_n dX0_mayBe_24 rfl 4 rfl ?_
      refine Wp_callVg (c_X0_flagMayBe hB hc hz g (BK_dg b hs i) (BK_dg b ht i) he) YV_X0_flagMayBe ml_X0_49 hB rfl dX0_mayBe_25 (by omega) (by decide) (by omega) (by omega) rfl rfl (Nat.le_of_ble_eq_true rfl) ?_
      refine Wp_ifne_b (tgt := 33) dX0_mayBe_28 (by decide) (fun c_28 => ?_) (fun c_28 => ?_)
      · refine Wp_iinc (x := (nI ((i + 1)))) (lv' := [(4, .int (nI ((i + 1)))), (0, .ref (ad (h))), (1, .int (nI (s))), (2, .int (nI (t))), (3, .int (nI (e)))]) dX0_mayBe_33 0 rfl (w_inc1 _) (by decide) rfl ?_
        refine Wp_goto (tgt := 3) dX0_mayBe_36 (by decide) ?_
        exact ih (i + 1) (by omega) (by omega) (fun j hj => by
          rcases Nat.lt_or_ge j i with q | q
          · exact hv j q
          · rw [show j = i by omega]; exact c_28)
      · refine Wp_iconst (v := (nI (0))) dX0_mayBe_31 (by decide) ?_
        exact Wp_zret (b := false) rfl rfl ⟨rfl, rfl, _, rfl, ⟨congrArg bI (tld_f (by omega) c_28).symm, rfl⟩⟩ (Nat.le_refl _) (Nat.le_refl _) dX0_mayBe_32
theorem c_X0_mayBe {E : wE} {S : List wK} {ad : Nat → Nat} {V : wV} {h c z k : Nat} (hB : S[h]? = some (.inl (0, [some (some c), some (some z), some (some k), none, none])))(hc : S[c]? = some (.inr (.inl (false, 8))))(hz : S[z]? = some (.inr (.inl (false, 8))))(hk : S[k]? = some (.inr (.inl (false, 10)))) {n : Nat} {ln : Nat → Nat} {lt : Nat → Nat → Nat} (b : BK V h k n ln lt)  {col siz : Nat → Nat} (g : FG V c z col siz) {s t e : Nat} (hs : s < n) (ht : t < n) (he : e ≤ 9) : w_C E mX0_mayBe (w_R 2 0 0) 0 0 [.ref (ad (h)), .int (nI (s)), .int (nI (t)), .int (nI (e))] S ad V (w_i S ad (fun r V' => r = bI (tld col siz ln lt e s t) ∧ V' = V)) := by
  refine w_C.of (by decide) (Nat.le_of_ble_eq_true rfl) ?_
  show Wp _ _ _ _ _ _ _ _ _ [(0, .ref (ad (h))), (1, .int (nI (s))), (2, .int (nI (t))), (3, .int (nI (e)))] [] S ad V
  refine Wp_iconst (v := (nI (0))) dX0_mayBe_0 (by decide) ?_
  refine Wp_istore (lv' := [(4, .int (nI (0))), (0, .ref (ad (h))), (1, .int (nI (s))), (2, .int (nI (t))), (3, .int (nI (e)))]) dX0_mayBe_1 (by decide) rfl ?_
  exact lp_X0_mayBe hB hc hz hk b g hs ht he 5 0 (by omega) (by omega) (fun j hj => by omega)
/-- how many of the first t are told alike -/
def lkd (f : Nat → Bool) : Nat → Nat
  | 0 => 0
  | t + 1 => lkd f t + (if f t = true then 1 else 0)
theorem lkd_le (f : Nat → Bool) (t : Nat) : lkd f t ≤ t := by
  induction t with
  | zero => simp [lkd]
  | succ t ih => simp only [lkd]; split <;> omega
theorem lp_X0_likenesses {E : wE} {S : List wK} {ad : Nat → Nat} {V : wV} {h c z k : Nat} (hB : S[h]? = some (.inl (0, [some (some c), some (some z), some (some k), none, none])))(hc : S[c]? = some (.inr (.inl (false, 8))))(hz : S[z]? = some (.inr (.inl (false, 8))))(hk : S[k]? = some (.inr (.inl (false, 10)))) {n : Nat} {ln : Nat → Nat} {lt : Nat → Nat → Nat} (b : BK V h k n ln lt)  {col siz : Nat → Nat} (g : FG V c z col siz) {s e : Nat} (hs : s < n) (he : e ≤ 9) : ∀ (m : Nat) (t : Nat), t ≤ n → n < t + m → Wp E mX0_likenesses (w_R 3 0 0) (w_i S ad (fun r V' => r = nI (lkd (tld col siz ln lt e s) n) ∧ V' = V)) 0 0 0 0 5 [(4, .int (nI (t))), (3, .int (nI (lkd (tld col siz ln lt e s) t))), (0, .ref (ad (h))), (1, .int (nI (s))), (2, .int (nI (e)))] [] S ad V := by
  have hn := b.1; have hn10 := b.2.1
  intro m
  induction m with
  | zero => intro t ht hm; omega
  | succ m ih =>
    intro t ht hm
    refine Wp_iload dX0_likenesses_5 0 rfl ?_
    refine Wp_aload_n dX0_likenesses_7 rfl 2 rfl ?_
    refine Wp_get (x := (nI (n))) fk_X0_24 hB rfl hn dX0_likenesses_8 ?_
    refine Wp_icmp_ge (tgt := 34) dX0_likenesses_11 (by decide) (nI_toInt (by omega)) (nI_toInt (by omega)) (fun c_11 => ?_) (fun c_11 => ?_)
    · refine Wp_iload_n dX0_likenesses_34 rfl 1 rfl ?_
      exact Wp_iret rfl ⟨rfl, rfl, _, rfl, ⟨by rw [show t = n by omega], rfl⟩⟩ (Nat.le_refl _) (Nat.le_refl _) dX0_likenesses_35
    · have hlk := lkd_le (tld col siz ln lt e s) t
      refine Wp_aload_n dX0_likenesses_14 rfl 2 rfl ?_
      refine Wp_iload_n dX0_likenesses_15 rfl 3 rfl ?_
      refine Wp_iload dX0_likenesses_16 0 rfl ?_
      refine Wp_iload_n dX0_likenesses_18 rfl 4 rfl ?_
      refine Wp_callVg (c_X0_mayBe hB hc hz hk b g hs (show t < n by omega) he) YV_X0_mayBe ml_X0_57 hB rfl dX0_likenesses_19 (by omega) (by decide) (by omega) (by omega) rfl rfl (Nat.le_of_ble_eq_true rfl) ?_
      refine Wp_ifeq_b (tgt := 28) dX0_likenesses_22 (by decide) (fun c_22 => ?_) (fun c_22 => ?_)
      · have hq : lkd (tld col siz ln lt e s) (t + 1) = lkd (tld col siz ln lt e s) t := by
          simp only [lkd]; rw [if_neg (by rw [c_22]; decide)]; rfl
        refine Wp_iinc (x := (nI ((t + 1)))) (lv' := [(4, .int (nI ((t + 1)))), (3, .int (nI (lkd (tld col siz ln lt e s) t))), (0, .ref (ad (h))), (1, .int (nI (s))), (2, .int (nI (e)))]) dX0_likenesses_28 0 rfl (w_inc1 _) (by decide) rfl ?_
        refine Wp_goto (tgt := 5) dX0_likenesses_31 (by decide) ?_
        rw [← hq]
        exact ih (t + 1) (by omega) (by omega)
      · have hq : lkd (tld col siz ln lt e s) (t + 1) = lkd (tld col siz ln lt e s) t + 1 := by
          simp only [lkd]; rw [if_pos c_22]
        refine Wp_iinc (x := (nI ((lkd (tld col siz ln lt e s) t + 1)))) (lv' := [(3, .int (nI ((lkd (tld col siz ln lt e s) t + 1)))), (4, .int (nI (t))), (0, .ref (ad (h))), (1, .int (nI (s))), (2, .int (nI (e)))]) dX0_likenesses_25 1 rfl (w_inc1 _) (by decide) rfl ?_
        refine Wp_iinc (x := (nI ((t + 1)))) (lv' := [(4, .int (nI ((t + 1)))), (3, .int (nI ((lkd (tld col siz ln lt e s) t + 1)))), (0, .ref (ad (h))), (1, .int (nI (s))), (2, .int (nI (e)))]) dX0_likenesses_28 1 rfl (w_inc1 _) (by decide) rfl ?_
        refine Wp_goto (tgt := 5) dX0_likenesses_31 (by decide) ?_
        rw [← hq]
        exact ih (t + 1) (by omega) (by omega)
theorem c_X0_likenesses {E : wE} {S : List wK} {ad : Nat → Nat} {V : wV} {h c z k : Nat} (hB : S[h]? = some (.inl (0, [some (some c), some (some z), some (some k), none, none])))(hc : S[c]? = some (.inr (.inl (false, 8))))(hz : S[z]? = some (.inr (.inl (false, 8))))(hk : S[k]? = some (.inr (.inl (false, 10)))) {n : Nat} {ln : Nat → Nat} {lt : Nat → Nat → Nat} (b : BK V h k n ln lt)  {col siz : Nat → Nat} (g : FG V c z col siz) {s e : Nat} (hs : s < n) (he : e ≤ 9) : w_C E mX0_likenesses (w_R 3 0 0) 0 0 [.ref (ad (h)), .int (nI (s)), .int (nI (e))] S ad V (w_i S ad (fun r V' => r = nI (lkd (tld col siz ln lt e s) n) ∧ V' = V)) := by
  refine w_C.of (by decide) (Nat.le_of_ble_eq_true rfl) ?_
  show Wp _ _ _ _ _ _ _ _ _ [(0, .ref (ad (h))), (1, .int (nI (s))), (2, .int (nI (e)))] [] S ad V
  refine Wp_iconst (v := (nI (0))) dX0_likenesses_0 (by decide) ?_
  refine Wp_istore_n (lv' := [(3, .int (nI (0))), (0, .ref (ad (h))), (1, .int (nI (s))), (2, .int (nI (e)))]) dX0_likenesses_1 rfl (by decide) rfl ?_
  refine Wp_iconst (v := (nI (0))) dX0_likenesses_2 (by decide) ?_
  refine Wp_istore (lv' := [(4, .int (nI (0))), (3, .int (nI (0))), (0, .ref (ad (h))), (1, .int (nI (s))), (2, .int (nI (e)))]) dX0_likenesses_3 (by decide) rfl ?_
  exact lp_X0_likenesses hB hc hz hk b g hs he (n + 1) 0 (by omega) (by omega)
end
section
/-! SIGNAL: the message (ms, len of it), places, understood, times -/
abbrev aSig : Type := (Nat → Nat) × Nat × Nat × Nat × Nat
def SG (V : wV) (u a : Nat) (x : aSig) : Prop := V u 1 = nI x.2.1 ∧ V u 2 = nI x.2.2.1 ∧ V u 3 = nI x.2.2.2.1 ∧ V u 4 = nI x.2.2.2.2 ∧ ∀ k, k < x.2.1 → V a k = nI (x.1 k)
def ins (ms : Nat → Nat) (p s : Nat) : Nat → Nat := fun k => if k < p then ms k else if k = p then s else ms (k - 1)
def del (ms : Nat → Nat) (p : Nat) : Nat → Nat := fun k => if k < p then ms k else ms (k + 1)
theorem SG.of {V V' : wV} {u a : Nat} {x : aSig} (h : SG V u a x) (h1 : V' u = V u) (h2 : V' a = V a) : SG V' u a x := by
  unfold SG; rw [h1, h2]; exact h
theorem c_X6_nothingSent {E : wE} {S : List wK} {ad : Nat → Nat} {V : wV} {u a : Nat} (hU : S[u]? = some (.inl (6, [some (some a), none, none, none, none])))  : w_C E mX6_nothingSent (w_R 0 0 0) 0 0 [.ref (ad (u))] S ad V (w_v S ad (fun V' => V' = up2 (up2 V u 3 (nI 0)) u 4 (nI 0))) := by
  refine w_C.of (by decide) (Nat.le_of_ble_eq_true rfl) ?_
  show Wp _ _ _ _ _ _ _ _ _ [(0, .ref (ad (u)))] [] S ad V
  refine Wp_aload_n dX6_nothingSent_0 rfl 0 rfl ?_
  refine Wp_iconst (v := (nI (0))) dX6_nothingSent_1 (by decide) ?_
  refine Wp_put fk_X6_25 hU rfl rfl rfl dX6_nothingSent_2 ?_
  refine Wp_aload_n dX6_nothingSent_5 rfl 0 rfl ?_
  refine Wp_iconst (v := (nI (0))) dX6_nothingSent_6 (by decide) ?_
  refine Wp_put fk_X6_28 hU rfl rfl rfl dX6_nothingSent_7 ?_
  exact Wp_vret rfl ⟨rfl, rfl, rfl, rfl⟩ (Nat.le_refl _) (Nat.le_refl _) dX6_nothingSent_10
theorem c_X6_begin {E : wE} {S : List wK} {ad : Nat → Nat} {V : wV} {u a : Nat} (hU : S[u]? = some (.inl (6, [some (some a), none, none, none, none]))) (x : Int32) : w_C E mX6_begin (w_R 1 0 0) 0 0 [.ref (ad (u)), .int (x)] S ad V (w_v S ad (fun V' => V' = up2 (up2 (up2 (up2 V u 1 (nI 0)) u 2 x) u 3 (nI 0)) u 4 (nI 0))) := by
  refine w_C.of (by decide) (Nat.le_of_ble_eq_true rfl) ?_
  show Wp _ _ _ _ _ _ _ _ _ [(0, .ref (ad (u))), (1, .int (x))] [] S ad V
  refine Wp_aload_n dX6_begin_0 rfl 0 rfl ?_
  refine Wp_iconst (v := (nI (0))) dX6_begin_1 (by decide) ?_
  refine Wp_put fk_X6_15 hU rfl rfl rfl dX6_begin_2 ?_
  refine Wp_aload_n dX6_begin_5 rfl 0 rfl ?_
  refine Wp_iload_n dX6_begin_6 rfl 1 rfl ?_
  refine Wp_put fk_X6_19 hU rfl rfl rfl dX6_begin_7 ?_
  refine Wp_aload_n dX6_begin_10 rfl 0 rfl ?_
  refine Wp_callVv (c_X6_nothingSent hU) YV_X6_nothingSent ml_X6_22 hU rfl dX6_begin_11 (by omega) (by decide) (by omega) (by omega) rfl rfl (Nat.le_of_ble_eq_true rfl) (fun V1 hV1 => ?_)
  exact Wp_vret rfl ⟨rfl, rfl, rfl, hV1⟩ (Nat.le_refl _) (Nat.le_refl _) dX6_begin_14
theorem c_X6_isUp {E : wE} {S : List wK} {ad : Nat → Nat} {V : wV} {u a : Nat} (hU : S[u]? = some (.inl (6, [some (some a), none, none, none, none]))) {ti : Nat} (g4 : V u 4 = nI ti) (ht : ti < 2 ^ 31) : w_C E mX6_isUp (w_R 0 0 0) 0 0 [.ref (ad (u))] S ad V (w_i S ad (fun r V' => r = bI (decide (ti ≠ 0)) ∧ V' = V)) := by
  refine w_C.of (by decide) (Nat.le_of_ble_eq_true rfl) ?_
  show Wp _ _ _ _ _ _ _ _ _ [(0, .ref (ad (u)))] [] S ad V
  refine Wp_aload_n dX6_isUp_0 rfl 0 rfl ?_
  refine Wp_get (x := (nI (ti))) fk_X6_28 hU rfl g4 dX6_isUp_1 ?_
  refine Wp_if_le (tgt := 11) dX6_isUp_4 (by decide) (nI_toInt (by omega)) (fun c_4 => ?_) (fun c_4 => ?_)
  · refine Wp_iconst (v := (nI (0))) dX6_isUp_11 (by decide) ?_
    exact Wp_zret (b := false) rfl rfl ⟨rfl, rfl, _, rfl, ⟨congrArg bI (decide_eq_false (by omega)).symm, rfl⟩⟩ (Nat.le_refl _) (Nat.le_refl _) dX6_isUp_12
  · refine Wp_iconst (v := (nI (1))) dX6_isUp_7 (by decide) ?_
    refine Wp_goto (tgt := 12) dX6_isUp_8 (by decide) ?_
    exact Wp_zret (b := true) rfl rfl ⟨rfl, rfl, _, rfl, ⟨congrArg bI (decide_eq_true (by omega)).symm, rfl⟩⟩ (Nat.le_refl _) (Nat.le_refl _) dX6_isUp_12
theorem c_X6_hasPlace {E : wE} {S : List wK} {ad : Nat → Nat} {V : wV} {u a : Nat} (hU : S[u]? = some (.inl (6, [some (some a), none, none, none, none]))) {len : Nat} (g1 : V u 1 = nI len) (hl : len ≤ 8) (x : Int32) : w_C E mX6_hasPlace (w_R 0 0 0) 0 0 [.ref (ad (u)), .int (x)] S ad V (w_i S ad (fun r V' => r = bI (decide (0 ≤ x.toInt ∧ x.toInt < len)) ∧ V' = V)) := by
  refine w_C.of (by decide) (Nat.le_of_ble_eq_true rfl) ?_
  show Wp _ _ _ _ _ _ _ _ _ [(0, .ref (ad (u))), (1, .int (x))] [] S ad V
  refine Wp_iload_n dX6_hasPlace_0 rfl 1 rfl ?_
  refine Wp_if_lt (tgt := 16) dX6_hasPlace_1 (by decide) (rfl) (fun c_1 => ?_) (fun c_1 => ?_)
  · refine Wp_iconst (v := (nI (0))) dX6_hasPlace_16 (by decide) ?_
    exact Wp_zret (b := false) rfl rfl ⟨rfl, rfl, _, rfl, ⟨congrArg bI (decide_eq_false (by omega)).symm, rfl⟩⟩ (Nat.le_refl _) (Nat.le_refl _) dX6_hasPlace_17
  · refine Wp_iload_n dX6_hasPlace_4 rfl 1 rfl ?_
    refine Wp_aload_n dX6_hasPlace_5 rfl 0 rfl ?_
    refine Wp_get (x := (nI (len))) fk_X6_15 hU rfl g1 dX6_hasPlace_6 ?_
    refine Wp_icmp_ge (tgt := 16) dX6_hasPlace_9 (by decide) (rfl) (nI_toInt (by omega)) (fun c_9 => ?_) (fun c_9 => ?_)
    · refine Wp_iconst (v := (nI (0))) dX6_hasPlace_16 (by decide) ?_
      exact Wp_zret (b := false) rfl rfl ⟨rfl, rfl, _, rfl, ⟨congrArg bI (decide_eq_false (by omega)).symm, rfl⟩⟩ (Nat.le_refl _) (Nat.le_refl _) dX6_hasPlace_17
    · refine Wp_iconst (v := (nI (1))) dX6_hasPlace_12 (by decide) ?_
      refine Wp_goto (tgt := 17) dX6_hasPlace_13 (by decide) ?_
      exact Wp_zret (b := true) rfl rfl ⟨rfl, rfl, _, rfl, ⟨congrArg bI (decide_eq_true (by omega)).symm, rfl⟩⟩ (Nat.le_refl _) (Nat.le_refl _) dX6_hasPlace_17
theorem c_X6_sendAgain {E : wE} {S : List wK} {ad : Nat → Nat} {V : wV} {u a : Nat} (hU : S[u]? = some (.inl (6, [some (some a), none, none, none, none]))) {ti : Nat} (g4 : V u 4 = nI ti) : w_C E mX6_sendAgain (w_R 0 0 0) 0 0 [.ref (ad (u))] S ad V (w_i S ad (fun r V' => r = nI (ti + 1) ∧ V' = up2 V u 4 (nI (ti + 1)))) := by
  refine w_C.of (by decide) (Nat.le_of_ble_eq_true rfl) ?_
  show Wp _ _ _ _ _ _ _ _ _ [(0, .ref (ad (u)))] [] S ad V
  refine Wp_aload_n dX6_sendAgain_0 rfl 0 rfl ?_
  refine Wp_dup dX6_sendAgain_1 rfl ?_
  refine Wp_get (x := (nI (ti))) fk_X6_28 hU rfl g4 dX6_sendAgain_2 ?_
  refine Wp_iconst (v := (nI (1))) dX6_sendAgain_5 (by decide) ?_
  refine Wp_iadd (z := (nI ((ti + 1)))) dX6_sendAgain_6 (nI_add _ _) ?_
  refine Wp_put fk_X6_28 hU rfl rfl rfl dX6_sendAgain_7 ?_
  refine Wp_aload_n dX6_sendAgain_10 rfl 0 rfl ?_
  refine Wp_get (x := (nI ((ti + 1)))) fk_X6_28 hU rfl up2_s dX6_sendAgain_11 ?_
  exact Wp_iret rfl ⟨rfl, rfl, _, rfl, ⟨rfl, rfl⟩⟩ (Nat.le_refl _) (Nat.le_refl _) dX6_sendAgain_14
theorem c_X6_takeDown {E : wE} {S : List wK} {ad : Nat → Nat} {V : wV} {u a : Nat} (hU : S[u]? = some (.inl (6, [some (some a), none, none, none, none]))) {un ti : Nat} (g3 : V u 3 = nI un) (g4 : V u 4 = nI ti) : w_C E mX6_takeDown (w_R 0 0 0) 0 0 [.ref (ad (u))] S ad V (w_i S ad (fun r V' => r = nI ti ∧ V' = up2 (up2 V u 4 (nI 0)) u 3 (nI (un + 1)))) := by
  refine w_C.of (by decide) (Nat.le_of_ble_eq_true rfl) ?_
  show Wp _ _ _ _ _ _ _ _ _ [(0, .ref (ad (u)))] [] S ad V
  refine Wp_aload_n dX6_takeDown_0 rfl 0 rfl ?_
  refine Wp_get (x := (nI (ti))) fk_X6_28 hU rfl g4 dX6_takeDown_1 ?_
  refine Wp_istore_n (lv' := [(1, .int (nI (ti))), (0, .ref (ad (u)))]) dX6_takeDown_4 rfl (by decide) rfl ?_
  refine Wp_aload_n dX6_takeDown_5 rfl 1 rfl ?_
  refine Wp_iconst (v := (nI (0))) dX6_takeDown_6 (by decide) ?_
  refine Wp_put fk_X6_28 hU rfl rfl rfl dX6_takeDown_7 ?_
  refine Wp_aload_n dX6_takeDown_10 rfl 1 rfl ?_
  refine Wp_dup dX6_takeDown_11 rfl ?_
  refine Wp_get (x := (nI (un))) fk_X6_25 hU rfl ((up2_k (by decide)).trans g3) dX6_takeDown_12 ?_
  refine Wp_iconst (v := (nI (1))) dX6_takeDown_15 (by decide) ?_
  refine Wp_iadd (z := (nI ((un + 1)))) dX6_takeDown_16 (nI_add _ _) ?_
  refine Wp_put fk_X6_25 hU rfl rfl rfl dX6_takeDown_17 ?_
  refine Wp_iload_n dX6_takeDown_20 rfl 0 rfl ?_
  exact Wp_iret rfl ⟨rfl, rfl, _, rfl, ⟨rfl, rfl⟩⟩ (Nat.le_refl _) (Nat.le_refl _) dX6_takeDown_21
theorem lp_X6_insert {E : wE} {S : List wK} {ad : Nat → Nat} {V : wV} {u a : Nat} (hU : S[u]? = some (.inl (6, [some (some a), none, none, none, none]))) (ha : S[a]? = some (.inr (.inl (false, 8)))) {ms : Nat → Nat} {len pl un ti : Nat} (g : SG V u a (ms, len, pl, un, ti)) {p s : Nat} (hp : p ≤ len) (hl : len < 8) : ∀ (m : Nat) (i : Nat) (V1 : wV), p ≤ i → i ≤ len → i < p + m → (∀ j, j ≠ a → V1 j = V j) → (∀ k, k < i → V1 a k = nI (ms k)) → (∀ k, i < k → k ≤ len → V1 a k = nI (ms (k - 1))) → Wp E mX6_insert (w_R 1 0 0) (w_v S ad (fun V' => SG V' u a (ins ms p s, len + 1, pl, 0, 0) ∧ ∀ j, j ≠ u → j ≠ a → V' j = V j)) 0 0 0 0 27 [(3, .int (nI (i))), (0, .ref (ad (u))), (1, .int (nI (p))), (2, .int (nI (s)))] [] S ad V1 := by
  have hau : a ≠ u := w_ne ha hU (by simp)
  obtain ⟨g1, g2, g3, g4, g5⟩ := g
  intro m
  induction m with
  | zero => intro i V1 hi hil hm fr lo hi2; omega
  | succ m ih =>
    intro i V1 hi hil hm fr lo hi2
    refine Wp_iload_n dX6_insert_27 rfl 0 rfl ?_
    refine Wp_iload_n dX6_insert_28 rfl 2 rfl ?_
    refine Wp_icmp_le (tgt := 52) dX6_insert_29 (by decide) (nI_toInt (by omega)) (nI_toInt (by omega)) (fun c_29 => ?_) (fun c_29 => ?_)
    · have e1 : V1 u 1 = nI len := by rw [fr u (Ne.symm hau)]; exact g1
      refine Wp_aload_n dX6_insert_52 rfl 1 rfl ?_
      refine Wp_getr fk_X6_9 hU rfl dX6_insert_53 ?_
      refine Wp_iload_n dX6_insert_56 rfl 2 rfl ?_
      refine Wp_iload_n dX6_insert_57 rfl 3 rfl ?_
      refine Wp_ist (n := p) ha rfl (by omega) (by decide) dX6_insert_58 ?_
      refine Wp_aload_n dX6_insert_59 rfl 1 rfl ?_
      refine Wp_dup dX6_insert_60 rfl ?_
      refine Wp_get (x := (nI (len))) fk_X6_15 hU rfl ((up2_i (w_ne hU ha (by simp))).trans e1) dX6_insert_61 ?_
      refine Wp_iconst (v := (nI (1))) dX6_insert_64 (by decide) ?_
      refine Wp_iadd (z := (nI ((len + 1)))) dX6_insert_65 (nI_add _ _) ?_
      refine Wp_put fk_X6_15 hU rfl rfl rfl dX6_insert_66 ?_
      refine Wp_aload_n dX6_insert_69 rfl 1 rfl ?_
      refine Wp_callVv (c_X6_nothingSent hU) YV_X6_nothingSent ml_X6_22 hU rfl dX6_insert_70 (by omega) (by decide) (by omega) (by omega) rfl rfl (Nat.le_of_ble_eq_true rfl) (fun V2 hV2 => ?_)
      have hip : i = p := by omega
      subst hip
      exact Wp_vret rfl ⟨rfl, rfl, rfl, by
      subst hV2
      refine ⟨⟨by simp [up2, upd], ?_, by simp [up2, upd], by simp [up2, upd], fun k hk => ?_⟩, fun j h1 h2 => by rw [← fr j h2]; simp [up2, h1, h2]⟩
      · rw [up2_k (by decide), up2_k (by decide), up2_k (by decide), up2_i (Ne.symm hau), fr u (Ne.symm hau)]; exact g2
      · have hk : k < len + 1 := hk
        show _ = nI (ins ms i s k)
        rw [up2_i hau, up2_i hau, up2_i hau]
        by_cases q : k = i
        · subst q; rw [up2_s]; simp [ins]
        · rw [up2_k q]
          rcases Nat.lt_or_ge k i with q2 | q2
          · rw [lo k q2]; simp [ins, q2]
          · rw [hi2 k (by omega) (by omega)]; simp [ins, q, show ¬ k < i by omega]⟩ (Nat.le_refl _) (Nat.le_refl _) dX6_insert_73
    · have eq1 : V1 a (i - 1) = nI (ms (i - 1)) := lo (i - 1) (by omega)
      refine Wp_aload_n dX6_insert_32 rfl 1 rfl ?_
      refine Wp_getr fk_X6_9 hU rfl dX6_insert_33 ?_
      refine Wp_iload_n dX6_insert_36 rfl 0 rfl ?_
      refine Wp_aload_n dX6_insert_37 rfl 1 rfl ?_
      refine Wp_getr fk_X6_9 hU rfl dX6_insert_38 ?_
      refine Wp_iload_n dX6_insert_41 rfl 0 rfl ?_
      refine Wp_iconst (v := (nI (1))) dX6_insert_42 (by decide) ?_
      refine Wp_isub (z := (nI ((i - 1)))) dX6_insert_43 (pk_sub (by omega)) ?_
      refine Wp_ild (n := (i - 1)) (y := (nI (ms (i - 1)))) ha rfl (by omega) (by decide) eq1 dX6_insert_44 ?_
      refine Wp_ist (n := i) ha rfl (by omega) (by decide) dX6_insert_45 ?_
      refine Wp_iinc (x := (nI ((i - 1)))) (lv' := [(3, .int (nI ((i - 1)))), (0, .ref (ad (u))), (1, .int (nI (p))), (2, .int (nI (s)))]) dX6_insert_46 0 rfl (w_dec1 (by omega)) (by decide) rfl ?_
      refine Wp_goto (tgt := 27) dX6_insert_49 (by decide) ?_
      exact ih (i - 1) _ (by omega) (by omega) (by omega) (fun j hj => by rw [← fr j hj]; simp [up2, hj]) (fun k hk => by rw [up2_k (by omega)]; exact lo k (by omega)) (fun k hk hk2 => by
        rcases Nat.lt_or_ge i k with q | q
        · rw [up2_k (by omega)]; exact hi2 k q hk2
        · rw [show k = i by omega, up2_s])
theorem c_X6_insert {E : wE} {S : List wK} {ad : Nat → Nat} {V : wV} {u a : Nat} (hU : S[u]? = some (.inl (6, [some (some a), none, none, none, none]))) (ha : S[a]? = some (.inr (.inl (false, 8)))) {ms : Nat → Nat} {len pl un ti : Nat} (g : SG V u a (ms, len, pl, un, ti)) {p s : Nat} (hp : p ≤ len) (hl : len < 8) : w_C E mX6_insert (w_R 1 0 0) 0 0 [.ref (ad (u)), .int (nI (p)), .int (nI (s))] S ad V (w_v S ad (fun V' => SG V' u a (ins ms p s, len + 1, pl, 0, 0) ∧ ∀ j, j ≠ u → j ≠ a → V' j = V j)) := by
  refine w_C.of (by decide) (Nat.le_of_ble_eq_true rfl) ?_
  show Wp _ _ _ _ _ _ _ _ _ [(0, .ref (ad (u))), (1, .int (nI (p))), (2, .int (nI (s)))] [] S ad V
  refine Wp_iload_n dX6_insert_0 rfl 1 rfl ?_
  refine Wp_if_lt (tgt := 21) dX6_insert_1 (by decide) (nI_toInt (by omega)) (fun c_1 => absurd c_1 (by omega)) (fun c_1 => ?_)
  refine Wp_iload_n dX6_insert_4 rfl 1 rfl ?_
  refine Wp_aload_n dX6_insert_5 rfl 0 rfl ?_
  refine Wp_get (x := (nI (len))) fk_X6_15 hU rfl g.1 dX6_insert_6 ?_
  refine Wp_icmp_gt (tgt := 21) dX6_insert_9 (by decide) (nI_toInt (by omega)) (nI_toInt (by omega)) (fun c_9 => absurd c_9 (by omega)) (fun c_9 => ?_)
  refine Wp_aload_n dX6_insert_12 rfl 0 rfl ?_
  refine Wp_get (x := (nI (len))) fk_X6_15 hU rfl g.1 dX6_insert_13 ?_
  refine Wp_bipush (v := (nI (8))) dX6_insert_16 (by decide) ?_
  refine Wp_icmp_lt (tgt := 22) dX6_insert_18 (by decide) (nI_toInt (by omega)) (nI_toInt (by omega)) (fun c_18 => ?_) (fun c_18 => absurd c_18 (by omega))
  refine Wp_aload_n dX6_insert_22 rfl 0 rfl ?_
  refine Wp_get (x := (nI (len))) fk_X6_15 hU rfl g.1 dX6_insert_23 ?_
  refine Wp_istore_n (lv' := [(3, .int (nI (len))), (0, .ref (ad (u))), (1, .int (nI (p))), (2, .int (nI (s)))]) dX6_insert_26 rfl (by decide) rfl ?_
  exact lp_X6_insert hU ha g hp hl (len + 1) len V hp (by omega) (by omega) (fun _ _ => rfl) (fun k hk => g.2.2.2.2 k hk) (fun k h1 h2 => by omega)
theorem lp_X6_remove {E : wE} {S : List wK} {ad : Nat → Nat} {V : wV} {u a : Nat} (hU : S[u]? = some (.inl (6, [some (some a), none, none, none, none]))) (ha : S[a]? = some (.inr (.inl (false, 8)))) {ms : Nat → Nat} {len pl un ti : Nat} (g : SG V u a (ms, len, pl, un, ti)) {p : Nat} (hp : p < len) (hl : len ≤ 8) : ∀ (m : Nat) (i : Nat) (V1 : wV), p ≤ i → i < len → len ≤ i + m → (∀ j, j ≠ a → V1 j = up2 V u 1 (nI (len - 1)) j) → (∀ k, k < i → V1 a k = nI (del ms p k)) → (∀ k, i ≤ k → k < len → V1 a k = nI (ms k)) → Wp E mX6_remove (w_R 1 0 0) (w_i S ad (fun r V' => r = nI (ms p) ∧ SG V' u a (del ms p, len - 1, pl, 0, 0) ∧ ∀ j, j ≠ u → j ≠ a → V' j = V j)) 0 0 0 0 30 [(3, .int (nI (i))), (2, .int (nI (ms p))), (0, .ref (ad (u))), (1, .int (nI (p)))] [] S ad V1 := by
  have hau : a ≠ u := w_ne ha hU (by simp)
  obtain ⟨g1, g2, g3, g4, g5⟩ := g
  intro m
  induction m with
  | zero => intro i V1 hi hil hm fr lo hi2; omega
  | succ m ih =>
    intro i V1 hi hil hm fr lo hi2
    refine Wp_iload_n dX6_remove_30 rfl 0 rfl ?_
    refine Wp_aload_n dX6_remove_31 rfl 2 rfl ?_
    refine Wp_get (x := (nI ((len - 1)))) fk_X6_15 hU rfl (show V1 u 1 = nI (len - 1) by rw [fr u (Ne.symm hau), up2_s]) dX6_remove_32 ?_
    refine Wp_icmp_ge (tgt := 58) dX6_remove_35 (by decide) (nI_toInt (by omega)) (nI_toInt (by omega)) (fun c_35 => ?_) (fun c_35 => ?_)
    · refine Wp_aload_n dX6_remove_58 rfl 2 rfl ?_
      refine Wp_callVv (c_X6_nothingSent hU) YV_X6_nothingSent ml_X6_22 hU rfl dX6_remove_59 (by omega) (by decide) (by omega) (by omega) rfl rfl (Nat.le_of_ble_eq_true rfl) (fun V2 hV2 => ?_)
      have hie : i = len - 1 := by omega
      refine Wp_iload_n dX6_remove_62 rfl 1 rfl ?_
      exact Wp_iret rfl ⟨rfl, rfl, _, rfl, by
      subst hV2
      refine ⟨rfl, ⟨?_, ?_, by simp [up2, upd], by simp [up2, upd], fun k hk => ?_⟩, fun j h1 h2 => ?_⟩
      · rw [up2_k (by decide), up2_k (by decide), fr u (Ne.symm hau), up2_s]
      · rw [up2_k (by decide), up2_k (by decide), fr u (Ne.symm hau), up2_k (by decide)]; exact g2
      · have hk : k < len - 1 := hk
        rw [up2_i hau, up2_i hau]; exact lo k (by omega)
      · have q := fr j h2
        simp only [up2, h1, if_false] at q ⊢
        exact q⟩ (Nat.le_refl _) (Nat.le_refl _) dX6_remove_63
    · refine Wp_aload_n dX6_remove_38 rfl 2 rfl ?_
      refine Wp_getr fk_X6_9 hU rfl dX6_remove_39 ?_
      refine Wp_iload_n dX6_remove_42 rfl 0 rfl ?_
      refine Wp_aload_n dX6_remove_43 rfl 2 rfl ?_
      refine Wp_getr fk_X6_9 hU rfl dX6_remove_44 ?_
      refine Wp_iload_n dX6_remove_47 rfl 0 rfl ?_
      refine Wp_iconst (v := (nI (1))) dX6_remove_48 (by decide) ?_
      refine Wp_iadd (z := (nI ((i + 1)))) dX6_remove_49 (nI_add _ _) ?_
      refine Wp_ild (n := (i + 1)) (y := (nI (ms (i + 1)))) ha rfl (by omega) (by decide) (hi2 (i + 1) (by omega) (by omega)) dX6_remove_50 ?_
      refine Wp_ist (n := i) ha rfl (by omega) (by decide) dX6_remove_51 ?_
      refine Wp_iinc (x := (nI ((i + 1)))) (lv' := [(3, .int (nI ((i + 1)))), (2, .int (nI (ms p))), (0, .ref (ad (u))), (1, .int (nI (p)))]) dX6_remove_52 0 rfl (w_inc1 _) (by decide) rfl ?_
      refine Wp_goto (tgt := 30) dX6_remove_55 (by decide) ?_
      exact ih (i + 1) _ (by omega) (by omega) (by omega) (fun j hj => by rw [← fr j hj]; simp [up2, hj]) (fun k hk => by
        by_cases q : k = i
        · subst q; rw [up2_s]; simp [del, show ¬ k < p by omega]
        · rw [up2_k q]; exact lo k (by omega)) (fun k hk hk2 => by rw [up2_k (by omega)]; exact hi2 k (by omega) hk2)
theorem c_X6_remove {E : wE} {S : List wK} {ad : Nat → Nat} {V : wV} {u a : Nat} (hU : S[u]? = some (.inl (6, [some (some a), none, none, none, none]))) (ha : S[a]? = some (.inr (.inl (false, 8)))) {ms : Nat → Nat} {len pl un ti : Nat} (g : SG V u a (ms, len, pl, un, ti)) {p : Nat} (hp : p < len) (hl : len ≤ 8) : w_C E mX6_remove (w_R 1 0 0) 0 0 [.ref (ad (u)), .int (nI (p))] S ad V (w_i S ad (fun r V' => r = nI (ms p) ∧ SG V' u a (del ms p, len - 1, pl, 0, 0) ∧ ∀ j, j ≠ u → j ≠ a → V' j = V j)) := by
  refine w_C.of (by decide) (Nat.le_of_ble_eq_true rfl) ?_
  show Wp _ _ _ _ _ _ _ _ _ [(0, .ref (ad (u))), (1, .int (nI (p)))] [] S ad V
  refine Wp_aload_n dX6_remove_0 rfl 0 rfl ?_
  refine Wp_iload_n dX6_remove_1 rfl 1 rfl ?_
  refine Wp_callVg (c_X6_hasPlace hU g.1 (by omega) _) YV_X6_hasPlace ml_X6_31 hU rfl dX6_remove_2 (by omega) (by decide) (by omega) (by omega) rfl rfl (Nat.le_of_ble_eq_true rfl) ?_
  refine Wp_ifne_b (tgt := 11) dX6_remove_5 (by decide) (fun c_5 => ?_) (fun c_5 => absurd c_5 (by rw [has_nI (by omega)]; simp; omega))
  refine Wp_aload_n dX6_remove_11 rfl 0 rfl ?_
  refine Wp_getr fk_X6_9 hU rfl dX6_remove_12 ?_
  refine Wp_iload_n dX6_remove_15 rfl 1 rfl ?_
  refine Wp_ild (n := p) (y := (nI (ms p))) ha rfl (by omega) (by decide) (g.2.2.2.2 p hp) dX6_remove_16 ?_
  refine Wp_istore_n (lv' := [(2, .int (nI (ms p))), (0, .ref (ad (u))), (1, .int (nI (p)))]) dX6_remove_17 rfl (by decide) rfl ?_
  refine Wp_aload_n dX6_remove_18 rfl 1 rfl ?_
  refine Wp_dup dX6_remove_19 rfl ?_
  refine Wp_get (x := (nI (len))) fk_X6_15 hU rfl g.1 dX6_remove_20 ?_
  refine Wp_iconst (v := (nI (1))) dX6_remove_23 (by decide) ?_
  refine Wp_isub (z := (nI ((len - 1)))) dX6_remove_24 (pk_sub (by omega)) ?_
  refine Wp_put fk_X6_15 hU rfl rfl rfl dX6_remove_25 ?_
  refine Wp_iload_n dX6_remove_28 rfl 2 rfl ?_
  refine Wp_istore_n (lv' := [(3, .int (nI (p))), (2, .int (nI (ms p))), (0, .ref (ad (u))), (1, .int (nI (p)))]) dX6_remove_29 rfl (by decide) rfl ?_
  exact lp_X6_remove hU ha g hp hl (len + 1) p _ (by omega) (by omega) (by omega) (fun _ _ => rfl) (fun k hk => by rw [up2_i (w_ne ha hU (by simp))]; have q := g.2.2.2.2 k (show k < len by omega); rw [q]; simp [del, hk]) (fun k h1 h2 => by rw [up2_i (w_ne ha hU (by simp))]; exact g.2.2.2.2 k h2)
theorem c_X6_copyFrom {E : wE} {S : List wK} {ad : Nat → Nat} {V : wV} {u a u2 a2 : Nat} (hU : S[u]? = some (.inl (6, [some (some a), none, none, none, none]))) (ha : S[a]? = some (.inr (.inl (false, 8)))) (hU2 : S[u2]? = some (.inl (6, [some (some a2), none, none, none, none]))) (ha2 : S[a2]? = some (.inr (.inl (false, 8)))) {x : aSig} (g : SG V u2 a2 x) (hx : x.2.1 ≤ 8) (huu : u2 ≠ u) : w_C E mX6_copyFrom (w_R 1 0 0) 0 0 [.ref (ad (u)), .ref (ad (u2))] S ad V (w_v S ad (fun V' => SG V' u a x ∧ ∀ j, j ≠ u → j ≠ a → V' j = V j)) := by
  refine w_C.of (by decide) (Nat.le_of_ble_eq_true rfl) ?_
  show Wp _ _ _ _ _ _ _ _ _ [(0, .ref (ad (u))), (1, .ref (ad (u2)))] [] S ad V
  have hau : a ≠ u := w_ne ha hU (by simp)
  have hu2a : u2 ≠ a := w_ne hU2 ha (by simp)
  obtain ⟨g1, g2, g3, g4, g5⟩ := g
  refine Wp_aload_n dX6_copyFrom_0 rfl 1 rfl ?_
  refine Wp_getr fk_X6_9 hU2 rfl dX6_copyFrom_1 ?_
  refine Wp_iconst (v := (nI (0))) dX6_copyFrom_4 (by decide) ?_
  refine Wp_aload_n dX6_copyFrom_5 rfl 0 rfl ?_
  refine Wp_getr fk_X6_9 hU rfl dX6_copyFrom_6 ?_
  refine Wp_iconst (v := (nI (0))) dX6_copyFrom_9 (by decide) ?_
  refine Wp_bipush (v := (nI (8))) dX6_copyFrom_10 (by decide) ?_
  refine Wp_copy (N := 8) ml_X6_35 ha2 ha rfl rfl rfl (by decide) (by decide) (by decide) (by decide) (by decide) dX6_copyFrom_12 ?_
  obtain ⟨V1, hV1⟩ : ∃ V1, V1 = (up1 V a (va_cpy (V a2) (V a) 0 0 8)) := ⟨_, rfl⟩
  rw [← hV1]
  have fr : ∀ j, j ≠ a → V1 j = V j := fun j hj => by rw [hV1]; simp [up1, hj]
  have fa : ∀ k, k < 8 → V1 a k = V a2 k := fun k hk => by rw [hV1]; simp only [up1, if_pos rfl]; exact sb_cpy0 hk
  refine Wp_aload_n dX6_copyFrom_15 rfl 0 rfl ?_
  refine Wp_aload_n dX6_copyFrom_16 rfl 1 rfl ?_
  refine Wp_get (x := (V1 u2 1)) fk_X6_15 hU2 rfl rfl dX6_copyFrom_17 ?_
  refine Wp_put fk_X6_15 hU rfl rfl rfl dX6_copyFrom_20 ?_
  refine Wp_aload_n dX6_copyFrom_23 rfl 0 rfl ?_
  refine Wp_aload_n dX6_copyFrom_24 rfl 1 rfl ?_
  refine Wp_get (x := (V1 u2 2)) fk_X6_19 hU2 rfl ((up2_k (by decide)).trans rfl) dX6_copyFrom_25 ?_
  refine Wp_put fk_X6_19 hU rfl rfl rfl dX6_copyFrom_28 ?_
  refine Wp_aload_n dX6_copyFrom_31 rfl 0 rfl ?_
  refine Wp_aload_n dX6_copyFrom_32 rfl 1 rfl ?_
  refine Wp_get (x := (V1 u2 3)) fk_X6_25 hU2 rfl ((up2_k (by decide)).trans ((up2_k (by decide)).trans rfl)) dX6_copyFrom_33 ?_
  refine Wp_put fk_X6_25 hU rfl rfl rfl dX6_copyFrom_36 ?_
  refine Wp_aload_n dX6_copyFrom_39 rfl 0 rfl ?_
  refine Wp_aload_n dX6_copyFrom_40 rfl 1 rfl ?_
  refine Wp_get (x := (V1 u2 4)) fk_X6_28 hU2 rfl ((up2_k (by decide)).trans ((up2_k (by decide)).trans ((up2_k (by decide)).trans rfl))) dX6_copyFrom_41 ?_
  refine Wp_put fk_X6_28 hU rfl rfl rfl dX6_copyFrom_44 ?_
  exact Wp_vret rfl ⟨rfl, rfl, rfl, by
    refine ⟨⟨?_, ?_, ?_, ?_, fun k hk => ?_⟩, fun j h1 h2 => by rw [← fr j h2]; simp [up2, h1]⟩
    · simp [up2, upd]; rw [fr u2 hu2a]; exact g1
    · simp [up2, upd]; rw [fr u2 hu2a]; exact g2
    · simp [up2, upd]; rw [fr u2 hu2a]; exact g3
    · simp [up2, upd]; rw [fr u2 hu2a]; exact g4
    · rw [up2_i hau, up2_i hau, up2_i hau, up2_i hau, fa k (by omega)]; exact g5 k hk⟩ (Nat.le_refl _) (Nat.le_refl _) dX6_copyFrom_47
end
section
/-! THE BOOK: reset, copy -/
theorem lp_X0_reset {E : wE} {S : List wK} {ad : Nat → Nat} {V : wV} {h c z k : Nat} (hB : S[h]? = some (.inl (0, [some (some c), some (some z), some (some k), none, none]))) (hc : S[c]? = some (.inr (.inl (false, 8)))) (hz : S[z]? = some (.inr (.inl (false, 8)))) (hcz : c ≠ z) : ∀ (m : Nat) (f : Nat) (V1 : wV), f ≤ 8 → 8 < f + m → (∀ j, j ≠ c → j ≠ z → V1 j = V j) → (∀ k, k < f → V1 c k = nI k ∧ V1 z k = nI 5) → Wp E mX0_reset (w_R 0 0 0) (w_v S ad (fun V' => FG V' c z (fun f => f) (fun _ => 5) ∧ V' h 3 = nI 0 ∧ V' h 4 = nI 5 ∧ ∀ j, j ≠ h → j ≠ c → j ≠ z → V' j = V j)) 0 0 0 0 2 [(1, .int (nI (f))), (0, .ref (ad (h)))] [] S ad V1 := by
  have hch : c ≠ h := w_ne hc hB (by simp)
  have hzh : z ≠ h := w_ne hz hB (by simp)
  intro m
  induction m with
  | zero => intro f V1 hf hm fr lo; omega
  | succ m ih =>
    intro f V1 hf hm fr lo
    refine Wp_iload_n dX0_reset_2 rfl 0 rfl ?_
    refine Wp_bipush (v := (nI (8))) dX0_reset_3 (by decide) ?_
    refine Wp_icmp_ge (tgt := 28) dX0_reset_5 (by decide) (nI_toInt (by omega)) (nI_toInt (by omega)) (fun c_5 => ?_) (fun c_5 => ?_)
    · refine Wp_aload_n dX0_reset_28 rfl 1 rfl ?_
      refine Wp_iconst (v := (nI (0))) dX0_reset_29 (by decide) ?_
      refine Wp_put fk_X0_24 hB rfl rfl rfl dX0_reset_30 ?_
      refine Wp_aload_n dX0_reset_33 rfl 1 rfl ?_
      refine Wp_iconst (v := (nI (5))) dX0_reset_34 (by decide) ?_
      refine Wp_put fk_X0_28 hB rfl rfl rfl dX0_reset_35 ?_
      exact Wp_vret rfl ⟨rfl, rfl, rfl, by
      refine ⟨fun k hk => ?_, by simp [up2, upd], by simp [up2, upd], fun j h1 h2 h3 => by rw [← fr j h2 h3]; simp [up2, h1]⟩
      rw [up2_i hch, up2_i hch, up2_i hzh, up2_i hzh]
      exact ⟨(lo k (by omega)).1, (lo k (by omega)).2, hk, Nat.le_of_ble_eq_true rfl⟩⟩ (Nat.le_refl _) (Nat.le_refl _) dX0_reset_38
    · refine Wp_aload_n dX0_reset_8 rfl 1 rfl ?_
      refine Wp_getr fk_X0_9 hB rfl dX0_reset_9 ?_
      refine Wp_iload_n dX0_reset_12 rfl 0 rfl ?_
      refine Wp_iload_n dX0_reset_13 rfl 0 rfl ?_
      refine Wp_ist (n := f) hc rfl (by omega) (by decide) dX0_reset_14 ?_
      refine Wp_aload_n dX0_reset_15 rfl 1 rfl ?_
      refine Wp_getr fk_X0_15 hB rfl dX0_reset_16 ?_
      refine Wp_iload_n dX0_reset_19 rfl 0 rfl ?_
      refine Wp_iconst (v := (nI (5))) dX0_reset_20 (by decide) ?_
      refine Wp_ist (n := f) hz rfl (by omega) (by decide) dX0_reset_21 ?_
      refine Wp_iinc (x := (nI ((f + 1)))) (lv' := [(1, .int (nI ((f + 1)))), (0, .ref (ad (h)))]) dX0_reset_22 0 rfl (w_inc1 _) (by decide) rfl ?_
      refine Wp_goto (tgt := 2) dX0_reset_25 (by decide) ?_
      exact ih (f + 1) _ (by omega) (by omega) (fun j h1 h2 => by rw [← fr j h1 h2]; simp [up2, h1, h2]) (fun k hk => by
        by_cases q : k = f
        · subst q; exact ⟨by rw [up2_i hcz, up2_s], by rw [up2_s]⟩
        · rw [up2_k q, up2_k q, up2_k q, up2_k q]; exact lo k (by omega))
theorem c_X0_reset {E : wE} {S : List wK} {ad : Nat → Nat} {V : wV} {h c z k : Nat} (hB : S[h]? = some (.inl (0, [some (some c), some (some z), some (some k), none, none]))) (hc : S[c]? = some (.inr (.inl (false, 8)))) (hz : S[z]? = some (.inr (.inl (false, 8)))) (hcz : c ≠ z) : w_C E mX0_reset (w_R 0 0 0) 0 0 [.ref (ad (h))] S ad V (w_v S ad (fun V' => FG V' c z (fun f => f) (fun _ => 5) ∧ V' h 3 = nI 0 ∧ V' h 4 = nI 5 ∧ ∀ j, j ≠ h → j ≠ c → j ≠ z → V' j = V j)) := by
  refine w_C.of (by decide) (Nat.le_of_ble_eq_true rfl) ?_
  show Wp _ _ _ _ _ _ _ _ _ [(0, .ref (ad (h)))] [] S ad V
  refine Wp_iconst (v := (nI (0))) dX0_reset_0 (by decide) ?_
  refine Wp_istore_n (lv' := [(1, .int (nI (0))), (0, .ref (ad (h)))]) dX0_reset_1 rfl (by decide) rfl ?_
  exact lp_X0_reset hB hc hz hcz 9 0 V (by omega) (by omega) (fun _ _ _ => rfl) (fun k hk => by omega)
theorem c_X0_copyFrom {E : wE} {S : List wK} {ad : Nat → Nat} {V : wV} {h c z k h2 c2 z2 k2 : Nat} (hB : S[h]? = some (.inl (0, [some (some c), some (some z), some (some k), none, none]))) (hc : S[c]? = some (.inr (.inl (false, 8)))) (hz : S[z]? = some (.inr (.inl (false, 8)))) (hk : S[k]? = some (.inr (.inl (false, 10)))) (hB2 : S[h2]? = some (.inl (0, [some (some c2), some (some z2), some (some k2), none, none]))) (hc2 : S[c2]? = some (.inr (.inl (false, 8)))) (hz2 : S[z2]? = some (.inr (.inl (false, 8)))) (hk2 : S[k2]? = some (.inr (.inl (false, 10)))) {n : Nat} {ln : Nat → Nat} {lt : Nat → Nat → Nat} {col siz : Nat → Nat} (b : BK V h2 k2 n ln lt) (g : FG V c2 z2 col siz) (n1 : h2 ≠ h) (n2 : c ≠ z) (n3 : z2 ≠ c) (n4 : z2 ≠ z) (n5 : c2 ≠ c) : w_C E mX0_copyFrom (w_R 1 0 0) 0 0 [.ref (ad (h)), .ref (ad (h2))] S ad V (w_v S ad (fun V' => BK V' h k n ln lt ∧ FG V' c z col siz ∧ V' h 4 = V h2 4 ∧ ∀ j, j ≠ h → j ≠ c → j ≠ z → j ≠ k → V' j = V j)) := by
  refine w_C.of (by decide) (Nat.le_of_ble_eq_true rfl) ?_
  show Wp _ _ _ _ _ _ _ _ _ [(0, .ref (ad (h))), (1, .ref (ad (h2)))] [] S ad V
  have q1 : c ≠ h := w_ne hc hB (by simp)
  have q2 : z ≠ h := w_ne hz hB (by simp)
  have q3 : k ≠ h := w_ne hk hB (by simp)
  have q4 : h2 ≠ c := w_ne hB2 hc (by simp)
  have q5 : h2 ≠ z := w_ne hB2 hz (by simp)
  have q6 : h2 ≠ k := w_ne hB2 hk (by simp)
  have q7 : k ≠ c := w_ne hk hc (by simp)
  have q8 : k ≠ z := w_ne hk hz (by simp)
  have q9 : k2 ≠ c := w_ne hk2 hc (by simp)
  have q10 : k2 ≠ z := w_ne hk2 hz (by simp)
  obtain ⟨b1, b2, b3⟩ := b
  refine Wp_aload_n dX0_copyFrom_0 rfl 1 rfl ?_
  refine Wp_getr fk_X0_9 hB2 rfl dX0_copyFrom_1 ?_
  refine Wp_iconst (v := (nI (0))) dX0_copyFrom_4 (by decide) ?_
  refine Wp_aload_n dX0_copyFrom_5 rfl 0 rfl ?_
  refine Wp_getr fk_X0_9 hB rfl dX0_copyFrom_6 ?_
  refine Wp_iconst (v := (nI (0))) dX0_copyFrom_9 (by decide) ?_
  refine Wp_bipush (v := (nI (8))) dX0_copyFrom_10 (by decide) ?_
  refine Wp_copy (N := 8) ml_X0_31 hc2 hc rfl rfl rfl (by decide) (by decide) (by decide) (by decide) (by decide) dX0_copyFrom_12 ?_
  obtain ⟨V1, hV1⟩ : ∃ V1, V1 = (up1 V c (va_cpy (V c2) (V c) 0 0 8)) := ⟨_, rfl⟩
  rw [← hV1]
  have fr1 : ∀ j, j ≠ c → V1 j = V j := fun j hj => by rw [hV1]; simp [up1, hj]
  have fa1 : ∀ q, q < 8 → V1 c q = V c2 q := fun q hq => by rw [hV1]; simp only [up1, if_pos rfl]; exact sb_cpy0 hq
  refine Wp_aload_n dX0_copyFrom_15 rfl 1 rfl ?_
  refine Wp_getr fk_X0_15 hB2 rfl dX0_copyFrom_16 ?_
  refine Wp_iconst (v := (nI (0))) dX0_copyFrom_19 (by decide) ?_
  refine Wp_aload_n dX0_copyFrom_20 rfl 0 rfl ?_
  refine Wp_getr fk_X0_15 hB rfl dX0_copyFrom_21 ?_
  refine Wp_iconst (v := (nI (0))) dX0_copyFrom_24 (by decide) ?_
  refine Wp_bipush (v := (nI (8))) dX0_copyFrom_25 (by decide) ?_
  refine Wp_copy (N := 8) ml_X0_31 hz2 hz rfl rfl rfl (by decide) (by decide) (by decide) (by decide) (by decide) dX0_copyFrom_27 ?_
  obtain ⟨V2, hV2⟩ : ∃ V2, V2 = (up1 V1 z (va_cpy (V1 z2) (V1 z) 0 0 8)) := ⟨_, rfl⟩
  rw [← hV2]
  have fr2 : ∀ j, j ≠ z → V2 j = V1 j := fun j hj => by rw [hV2]; simp [up1, hj]
  have fa2 : ∀ q, q < 8 → V2 z q = V1 z2 q := fun q hq => by rw [hV2]; simp only [up1, if_pos rfl]; exact sb_cpy0 hq
  refine Wp_aload_n dX0_copyFrom_30 rfl 1 rfl ?_
  refine Wp_getr fk_X0_18 hB2 rfl dX0_copyFrom_31 ?_
  refine Wp_iconst (v := (nI (0))) dX0_copyFrom_34 (by decide) ?_
  refine Wp_aload_n dX0_copyFrom_35 rfl 0 rfl ?_
  refine Wp_getr fk_X0_18 hB rfl dX0_copyFrom_36 ?_
  refine Wp_iconst (v := (nI (0))) dX0_copyFrom_39 (by decide) ?_
  refine Wp_bipush (v := (nI (10))) dX0_copyFrom_40 (by decide) ?_
  refine Wp_copy (N := 10) ml_X0_31 hk2 hk rfl rfl rfl (by decide) (by decide) (by decide) (by decide) (by decide) dX0_copyFrom_42 ?_
  obtain ⟨V3, hV3⟩ : ∃ V3, V3 = (up1 V2 k (va_cpy (V2 k2) (V2 k) 0 0 10)) := ⟨_, rfl⟩
  rw [← hV3]
  have fr3 : ∀ j, j ≠ k → V3 j = V2 j := fun j hj => by rw [hV3]; simp [up1, hj]
  have fa3 : ∀ q, q < 10 → V3 k q = V2 k2 q := fun q hq => by rw [hV3]; simp only [up1, if_pos rfl]; exact sb_cpy0 hq
  refine Wp_aload_n dX0_copyFrom_45 rfl 0 rfl ?_
  refine Wp_aload_n dX0_copyFrom_46 rfl 1 rfl ?_
  refine Wp_get (x := (V3 h2 3)) fk_X0_24 hB2 rfl rfl dX0_copyFrom_47 ?_
  refine Wp_put fk_X0_24 hB rfl rfl rfl dX0_copyFrom_50 ?_
  refine Wp_aload_n dX0_copyFrom_53 rfl 0 rfl ?_
  refine Wp_aload_n dX0_copyFrom_54 rfl 1 rfl ?_
  refine Wp_get (x := (V3 h2 4)) fk_X0_28 hB2 rfl ((up2_k (by decide)).trans rfl) dX0_copyFrom_55 ?_
  refine Wp_put fk_X0_28 hB rfl rfl rfl dX0_copyFrom_58 ?_
  exact Wp_vret rfl ⟨rfl, rfl, rfl, by
    have e3 : V3 h2 = V h2 := by rw [fr3 h2 q6, fr2 h2 q5, fr1 h2 q4]
    refine ⟨⟨?_, b2, fun s hs => ?_⟩, fun f hf => ?_, ?_, fun j h1 h2 h3 h4 => ?_⟩
    · simp [up2, upd]; rw [e3]; exact b1
    · rw [up2_i q3, up2_i q3, fa3 s (by omega), fr2 k2 q10, fr1 k2 q9]; exact b3 s hs
    · rw [up2_i q1, up2_i q1, up2_i q2, up2_i q2, fr3 c (Ne.symm q7), fr2 c n2, fa1 f hf, fr3 z (Ne.symm q8), fa2 f hf, fr1 z2 n3]; exact g f hf
    · simp [up2, upd, n1]; rw [e3]
    · rw [← fr1 j h2, ← fr2 j h3, ← fr3 j h4]; simp [up2, h1]⟩ (Nat.le_refl _) (Nat.le_refl _) dX0_copyFrom_61
/-! THE TEXT: its tokens. 300: the end; 301: a number that stands nowhere; else the letter -/
def skf (tt : Nat → Nat) : Nat → Nat → Nat
  | 0, p => p
  | f + 1, p => if tt p = 32 then skf tt f (p + 1) else p
def skp (tt : Nat → Nat) (n p : Nat) : Nat := skf tt (n - p) p
def isD (c : Nat) : Bool := decide (48 ≤ c ∧ c ≤ 57)
def dgf (tt : Nat → Nat) : Nat → Nat → Nat
  | 0, p => p
  | f + 1, p => if isD (tt p) = true then dgf tt f (p + 1) else p
def dgp (tt : Nat → Nat) (n p : Nat) : Nat := dgf tt (n - p) p
theorem skp_s {tt : Nat → Nat} {n p : Nat} (h : p < n) (h2 : tt p = 32) : skp tt n p = skp tt n (p + 1) := by
  unfold skp; rw [show n - p = (n - (p + 1)) + 1 by omega]; simp [skf, h2]
theorem skp_e {tt : Nat → Nat} {n p : Nat} (h : n ≤ p ∨ tt p ≠ 32) : skp tt n p = p := by
  unfold skp
  rcases Nat.eq_zero_or_pos (n - p) with q | q
  · rw [q]; rfl
  · rw [show n - p = (n - p - 1) + 1 by omega]
    rcases h with h | h
    · omega
    · simp [skf, h]
theorem skf_ge (tt : Nat → Nat) (f p : Nat) : p ≤ skf tt f p ∧ skf tt f p ≤ p + f := by
  induction f generalizing p with
  | zero => simp [skf]
  | succ f ih =>
    simp only [skf]; split
    · have := ih (p + 1); omega
    · omega
theorem skp_ge {tt : Nat → Nat} {n p : Nat} (h : p ≤ n) : p ≤ skp tt n p ∧ skp tt n p ≤ n := by
  have := skf_ge tt (n - p) p; unfold skp; omega
theorem dgp_s {tt : Nat → Nat} {n p : Nat} (h : p < n) (h2 : isD (tt p) = true) : dgp tt n p = dgp tt n (p + 1) := by
  unfold dgp; rw [show n - p = (n - (p + 1)) + 1 by omega]; simp [dgf, h2]
theorem dgp_e {tt : Nat → Nat} {n p : Nat} (h : n ≤ p ∨ isD (tt p) = false) : dgp tt n p = p := by
  unfold dgp
  rcases Nat.eq_zero_or_pos (n - p) with q | q
  · rw [q]; rfl
  · rw [show n - p = (n - p - 1) + 1 by omega]
    rcases h with h | h
    · omega
    · simp [dgf, h]
theorem dgf_ge (tt : Nat → Nat) (f p : Nat) : p ≤ dgf tt f p ∧ dgf tt f p ≤ p + f := by
  induction f generalizing p with
  | zero => simp [dgf]
  | succ f ih =>
    simp only [dgf]; split
    · have := ih (p + 1); omega
    · omega
theorem dgp_ge {tt : Nat → Nat} {n p : Nat} (h : p ≤ n) : p ≤ dgp tt n p ∧ dgp tt n p ≤ n := by
  have := dgf_ge tt (n - p) p; unfold dgp; omega
def tkE (tt : Nat → Nat) (n p : Nat) : Nat := if isD (tt (skp tt n p)) = true then dgp tt n (skp tt n p + 1) else skp tt n p + 1
def tkT (tt : Nat → Nat) (n p : Nat) : Nat := if n ≤ skp tt n p then 300 else if isD (tt (skp tt n p)) = true ∧ skp tt n p + 1 < tkE tt n p then 301 else tt (skp tt n p)
theorem tkE_gt {tt : Nat → Nat} {n p : Nat} (h : p ≤ n) (h2 : tkT tt n p ≠ 300) : p < tkE tt n p ∧ tkE tt n p ≤ n ∧ skp tt n p < tkE tt n p := by
  have h3 := skp_ge (tt := tt) h
  have h4 : skp tt n p < n := by
    rcases Nat.lt_or_ge (skp tt n p) n with q | q
    · exact q
    · exact absurd (by unfold tkT; rw [if_pos q]) h2
  unfold tkE
  split
  · have := dgp_ge (tt := tt) (show skp tt n p + 1 ≤ n by omega); omega
  · omega
theorem tkT_ne {tt : Nat → Nat} {n p : Nat} (htt : ∀ k, k < n → tt k < 256) (h : tkT tt n p ≠ 300) : skp tt n p < n := by
  rcases Nat.lt_or_ge (skp tt n p) n with q | q
  · exact q
  · exact absurd (by unfold tkT; rw [if_pos q]) h
def ctk (t : Nat) : Int32 := if t = 300 then -1 else if t = 301 then -2 else nI t
theorem ctk_toInt {t : Nat} (h : t ≤ 301) : (ctk t).toInt = if t = 300 then -1 else if t = 301 then -2 else (t : Int) := by
  unfold ctk
  split
  · decide
  · split
    · decide
    · exact nI_toInt (by omega)
theorem tkT_le {tt : Nat → Nat} {n p : Nat} (htt : ∀ k, k < n → tt k < 256) : tkT tt n p ≤ 301 ∧ (tkT tt n p < 256 ∨ tkT tt n p = 300 ∨ tkT tt n p = 301) := by
  unfold tkT
  split
  · omega
  · split
    · omega
    · have := htt (skp tt n p) (by omega); omega
def TX (V : wV) (x ta n : Nat) (tt : Nat → Nat) : Prop := V x 1 = nI n ∧ n ≤ 120 ∧ ∀ k, k < n → V ta k = nI (tt k) ∧ tt k < 256
/-- the text stands at the token at p -/
def AT (V : wV) (x n : Nat) (tt : Nat → Nat) (p : Nat) : Prop := V x 2 = ctk (tkT tt n p) ∧ V x 3 = nI (skp tt n p) ∧ (tkT tt n p ≠ 300 → V x 4 = nI (tkE tt n p))
theorem c_X7_isDigit {E : wE} {S : List wK} {ad : Nat → Nat} {V : wV} {c : Nat} (hc : c < 256) : w_C E mX7_isDigit (w_R 0 0 0) 0 0 [.int (nI (c))] S ad V (w_i S ad (fun r V' => r = bI (isD c) ∧ V' = V)) := by
  refine w_C.of (by decide) (Nat.le_of_ble_eq_true rfl) ?_
  show Wp _ _ _ _ _ _ _ _ _ [(0, .int (nI (c)))] [] S ad V
  refine Wp_iload_n dX7_isDigit_0 rfl 0 rfl ?_
  refine Wp_bipush (v := (nI (48))) dX7_isDigit_1 (by decide) ?_
  refine Wp_icmp_lt (tgt := 16) dX7_isDigit_3 (by decide) (nI_toInt (by omega)) (nI_toInt (by omega)) (fun c_3 => ?_) (fun c_3 => ?_)
  · refine Wp_iconst (v := (nI (0))) dX7_isDigit_16 (by decide) ?_
    exact Wp_zret (b := false) rfl rfl ⟨rfl, rfl, _, rfl, ⟨congrArg bI (decide_eq_false (by omega)).symm, rfl⟩⟩ (Nat.le_refl _) (Nat.le_refl _) dX7_isDigit_17
  · refine Wp_iload_n dX7_isDigit_6 rfl 0 rfl ?_
    refine Wp_bipush (v := (nI (57))) dX7_isDigit_7 (by decide) ?_
    refine Wp_icmp_gt (tgt := 16) dX7_isDigit_9 (by decide) (nI_toInt (by omega)) (nI_toInt (by omega)) (fun c_9 => ?_) (fun c_9 => ?_)
    · refine Wp_iconst (v := (nI (0))) dX7_isDigit_16 (by decide) ?_
      exact Wp_zret (b := false) rfl rfl ⟨rfl, rfl, _, rfl, ⟨congrArg bI (decide_eq_false (by omega)).symm, rfl⟩⟩ (Nat.le_refl _) (Nat.le_refl _) dX7_isDigit_17
    · refine Wp_iconst (v := (nI (1))) dX7_isDigit_12 (by decide) ?_
      refine Wp_goto (tgt := 17) dX7_isDigit_13 (by decide) ?_
      exact Wp_zret (b := true) rfl rfl ⟨rfl, rfl, _, rfl, ⟨congrArg bI (decide_eq_true (by omega)).symm, rfl⟩⟩ (Nat.le_refl _) (Nat.le_refl _) dX7_isDigit_17
theorem lp_X7_step2 {E : wE} {S : List wK} {ad : Nat → Nat} {V : wV} {x ta : Nat} (hX : S[x]? = some (.inl (7, [some (some ta), none, none, none, none]))) (hta : S[ta]? = some (.inr (.inl (false, 120)))) {n : Nat} {tt : Nat → Nat} (t0 : TX V x ta n tt) {p : Nat} (hp : p ≤ n)  : ∀ (m : Nat) (e : Nat) (q : Nat) (V1 : wV), q < e → e ≤ n → n < e + m → skp tt n p = q → isD (tt q) = true → tkE tt n p = dgp tt n e → V1 x 1 = nI n → V1 x 3 = nI q → V1 x 4 = nI e → V1 x 2 = (if q + 1 < e then -2 else nI (tt q)) → (∀ j, j ≠ x → V1 j = V j) → Wp E mX7_step (w_R 1 0 0) (w_v S ad (fun V' => AT V' x n tt p ∧ V' x 1 = nI n ∧ ∀ j, j ≠ x → V' j = V j)) 0 0 0 0 96 [(0, .ref (ad (x)))] [] S ad V1 := by
  have hxa : ta ≠ x := w_ne hta hX (by simp)
  obtain ⟨g1, g2, g3⟩ := t0
  intro m
  induction m with
  | zero => intro e q V1 hqe he hm hsk hd hE f1 f3 f4 f2 fr; omega
  | succ m ih =>
    intro e q V1 hqe he hm hsk hd hE f1 f3 f4 f2 fr
    refine Wp_aload_n dX7_step_96 rfl 0 rfl ?_
    refine Wp_get (x := (nI (e))) fk_X7_15 hX rfl f4 dX7_step_97 ?_
    refine Wp_aload_n dX7_step_100 rfl 0 rfl ?_
    refine Wp_get (x := (nI (n))) fk_X7_25 hX rfl f1 dX7_step_101 ?_
    refine Wp_icmp_ge (tgt := 141) dX7_step_104 (by decide) (nI_toInt (by omega)) (nI_toInt (by omega)) (fun c_104 => ?_) (fun c_104 => ?_)
    · exact Wp_vret rfl ⟨rfl, rfl, rfl, by
      have hEe : tkE tt n p = e := by rw [hE]; exact dgp_e (by first | exact Or.inr c_119 | exact Or.inl (by omega))
      have hT : tkT tt n p = if q + 1 < e then 301 else tt q := by
        unfold tkT
        rw [hsk, hEe, if_neg (by omega)]
        by_cases z : q + 1 < e
        · rw [if_pos ⟨hd, z⟩, if_pos z]
        · rw [if_neg (fun w => z w.2), if_neg z]
      have g8 := (g3 q (by omega)).2
      refine ⟨⟨?_, by rw [hsk]; exact f3, fun _ => by rw [hEe]; exact f4⟩, f1, fr⟩
      rw [hT, f2]
      by_cases z : q + 1 < e
      · rw [if_pos z, if_pos z]; rfl
      · rw [if_neg z, if_neg z]; unfold ctk; rw [if_neg (by omega), if_neg (by omega)]⟩ (Nat.le_refl _) (Nat.le_refl _) dX7_step_141
    · have g9 := (g3 e (by omega)).2
      refine Wp_aload_n dX7_step_107 rfl 0 rfl ?_
      refine Wp_getr fk_X7_9 hX rfl dX7_step_108 ?_
      refine Wp_aload_n dX7_step_111 rfl 0 rfl ?_
      refine Wp_get (x := (nI (e))) fk_X7_15 hX rfl f4 dX7_step_112 ?_
      refine Wp_ild (n := e) (y := (nI (tt e))) hta rfl (by omega) (by decide) (show V1 ta e = nI (tt e) by rw [fr ta hxa]; exact (g3 e (by omega)).1) dX7_step_115 ?_
      refine Wp_callSg (c_X7_isDigit g9) YS_X7_isDigit ml_X7_31 dX7_step_116 (by omega) (by decide) (by omega) (by omega) rfl rfl (Nat.le_of_ble_eq_true rfl) ?_
      refine Wp_ifeq_b (tgt := 141) dX7_step_119 (by decide) (fun c_119 => ?_) (fun c_119 => ?_)
      · exact Wp_vret rfl ⟨rfl, rfl, rfl, by
      have hEe : tkE tt n p = e := by rw [hE]; exact dgp_e (by first | exact Or.inr c_119 | exact Or.inl (by omega))
      have hT : tkT tt n p = if q + 1 < e then 301 else tt q := by
        unfold tkT
        rw [hsk, hEe, if_neg (by omega)]
        by_cases z : q + 1 < e
        · rw [if_pos ⟨hd, z⟩, if_pos z]
        · rw [if_neg (fun w => z w.2), if_neg z]
      have g8 := (g3 q (by omega)).2
      refine ⟨⟨?_, by rw [hsk]; exact f3, fun _ => by rw [hEe]; exact f4⟩, f1, fr⟩
      rw [hT, f2]
      by_cases z : q + 1 < e
      · rw [if_pos z, if_pos z]; rfl
      · rw [if_neg z, if_neg z]; unfold ctk; rw [if_neg (by omega), if_neg (by omega)]⟩ (Nat.le_refl _) (Nat.le_refl _) dX7_step_141
      · refine Wp_aload_n dX7_step_122 rfl 0 rfl ?_
        refine Wp_bipush (v := ((-2))) dX7_step_123 (by decide) ?_
        refine Wp_put fk_X7_28 hX rfl rfl rfl dX7_step_125 ?_
        refine Wp_aload_n dX7_step_128 rfl 0 rfl ?_
        refine Wp_dup dX7_step_129 rfl ?_
        refine Wp_get (x := (nI (e))) fk_X7_15 hX rfl ((up2_k (by decide)).trans f4) dX7_step_130 ?_
        refine Wp_iconst (v := (nI (1))) dX7_step_133 (by decide) ?_
        refine Wp_iadd (z := (nI ((e + 1)))) dX7_step_134 (nI_add _ _) ?_
        refine Wp_put fk_X7_15 hX rfl rfl rfl dX7_step_135 ?_
        refine Wp_goto (tgt := 96) dX7_step_138 (by decide) ?_
        exact ih (e + 1) q _ (by omega) (by omega) (by omega) hsk hd (by rw [hE]; exact dgp_s (by omega) c_119) (by rw [up2_k (by decide), up2_k (by decide)]; exact f1) (by rw [up2_k (by decide), up2_k (by decide)]; exact f3) (by rw [up2_s]) (by rw [up2_k (by decide), up2_s, if_pos (by omega)]) (fun j hj => by rw [← fr j hj]; simp [up2, hj])
theorem lp_X7_step1 {E : wE} {S : List wK} {ad : Nat → Nat} {V : wV} {x ta : Nat} (hX : S[x]? = some (.inl (7, [some (some ta), none, none, none, none]))) (hta : S[ta]? = some (.inr (.inl (false, 120)))) {n : Nat} {tt : Nat → Nat} (t0 : TX V x ta n tt) {p : Nat} (hp : p ≤ n)  : ∀ (m : Nat) (q : Nat) (V1 : wV), p ≤ q → q ≤ n → n < q + m → skp tt n p = skp tt n q → V1 x 1 = nI n → V1 x 3 = nI q → (∀ j, j ≠ x → V1 j = V j) → Wp E mX7_step (w_R 1 0 0) (w_v S ad (fun V' => AT V' x n tt p ∧ V' x 1 = nI n ∧ ∀ j, j ≠ x → V' j = V j)) 0 0 0 0 8 [(0, .ref (ad (x)))] [] S ad V1 := by
  have hxa : ta ≠ x := w_ne hta hX (by simp)
  have t1 := t0
  obtain ⟨g1, g2, g3⟩ := t0
  intro m
  induction m with
  | zero => intro q V1 hpq hq hm hsk f1 f3 fr; omega
  | succ m ih =>
    intro q V1 hpq hq hm hsk f1 f3 fr
    refine Wp_aload_n dX7_step_8 rfl 0 rfl ?_
    refine Wp_get (x := (nI (q))) fk_X7_22 hX rfl f3 dX7_step_9 ?_
    refine Wp_aload_n dX7_step_12 rfl 0 rfl ?_
    refine Wp_get (x := (nI (n))) fk_X7_25 hX rfl f1 dX7_step_13 ?_
    refine Wp_icmp_ge (tgt := 46) dX7_step_16 (by decide) (nI_toInt (by omega)) (nI_toInt (by omega)) (fun c_16 => ?_) (fun c_16 => ?_)
    · have hsq : skp tt n p = q := by rw [hsk]; exact skp_e (Or.inl (by omega))
      refine Wp_aload_n dX7_step_46 rfl 0 rfl ?_
      refine Wp_get (x := (nI (q))) fk_X7_22 hX rfl f3 dX7_step_47 ?_
      refine Wp_aload_n dX7_step_50 rfl 0 rfl ?_
      refine Wp_get (x := (nI (n))) fk_X7_25 hX rfl f1 dX7_step_51 ?_
      refine Wp_icmp_lt (tgt := 63) dX7_step_54 (by decide) (nI_toInt (by omega)) (nI_toInt (by omega)) (fun c_54 => ?_) (fun c_54 => ?_)
      · have g9 := (g3 q (by omega)).2
        refine Wp_aload_n dX7_step_63 rfl 0 rfl ?_
        refine Wp_aload_n dX7_step_64 rfl 0 rfl ?_
        refine Wp_getr fk_X7_9 hX rfl dX7_step_65 ?_
        refine Wp_aload_n dX7_step_68 rfl 0 rfl ?_
        refine Wp_get (x := (nI (q))) fk_X7_22 hX rfl f3 dX7_step_69 ?_
        refine Wp_ild (n := q) (y := (nI (tt q))) hta rfl (by omega) (by decide) (show V1 ta q = nI (tt q) by rw [fr ta hxa]; exact (g3 q (by omega)).1) dX7_step_72 ?_
        refine Wp_put fk_X7_28 hX rfl rfl rfl dX7_step_73 ?_
        refine Wp_aload_n dX7_step_76 rfl 0 rfl ?_
        refine Wp_aload_n dX7_step_77 rfl 0 rfl ?_
        refine Wp_get (x := (nI (q))) fk_X7_22 hX rfl ((up2_k (by decide)).trans f3) dX7_step_78 ?_
        refine Wp_iconst (v := (nI (1))) dX7_step_81 (by decide) ?_
        refine Wp_iadd (z := (nI ((q + 1)))) dX7_step_82 (nI_add _ _) ?_
        refine Wp_put fk_X7_15 hX rfl rfl rfl dX7_step_83 ?_
        refine Wp_aload_n dX7_step_86 rfl 0 rfl ?_
        refine Wp_get (x := (nI (tt q))) fk_X7_28 hX rfl ((up2_k (by decide)).trans up2_s) dX7_step_87 ?_
        refine Wp_callSg (c_X7_isDigit g9) YS_X7_isDigit ml_X7_31 dX7_step_90 (by omega) (by decide) (by omega) (by omega) rfl rfl (Nat.le_of_ble_eq_true rfl) ?_
        refine Wp_ifeq_b (tgt := 141) dX7_step_93 (by decide) (fun c_93 => ?_) (fun c_93 => ?_)
        · have hE : tkE tt n p = q + 1 := by unfold tkE; rw [hsq, if_neg (by rw [c_93]; decide)]
          exact Wp_vret rfl ⟨rfl, rfl, rfl, by
      have hT : tkT tt n p = tt q := by unfold tkT; rw [hsq, if_neg (by omega), if_neg (by rw [c_93]; simp)]
      refine ⟨⟨?_, ?_, fun w => ?_⟩, ?_, fun j hj => by rw [← fr j hj]; simp [up2, hj]⟩
      · rw [hT]; simp [up2, upd]; unfold ctk; rw [if_neg (by omega), if_neg (by omega)]
      · rw [hsq]; simp [up2, upd]; exact f3
      · rw [hE]; simp [up2, upd]
      · simp [up2, upd]; exact f1⟩ (Nat.le_refl _) (Nat.le_refl _) dX7_step_141
        · have hE : tkE tt n p = dgp tt n (q + 1) := by unfold tkE; rw [hsq, if_pos c_93]
          exact lp_X7_step2 hX hta t1 hp (n + 1) (q + 1) q _ (by omega) (by omega) (by omega) hsq c_93 hE (by simp [up2, upd]; exact f1) (by simp [up2, upd]; exact f3) (by simp [up2, upd]) (by simp [up2, upd]) (fun j hj => by rw [← fr j hj]; simp [up2, hj])
      · refine Wp_aload_n dX7_step_57 rfl 0 rfl ?_
        refine Wp_iconst (v := ((-1))) dX7_step_58 (by decide) ?_
        refine Wp_put fk_X7_28 hX rfl rfl rfl dX7_step_59 ?_
        exact Wp_vret rfl ⟨rfl, rfl, rfl, by
      have hT : tkT tt n p = 300 := by unfold tkT; rw [hsq, if_pos (by omega)]
      refine ⟨⟨by rw [hT, up2_s]; rfl, by rw [hsq, up2_k (by decide)]; exact f3, fun w => absurd hT w⟩, by rw [up2_k (by decide)]; exact f1, fun j hj => by rw [← fr j hj]; simp [up2, hj]⟩⟩ (Nat.le_refl _) (Nat.le_refl _) dX7_step_62
    · have g9 := (g3 q (by omega)).2
      refine Wp_aload_n dX7_step_19 rfl 0 rfl ?_
      refine Wp_getr fk_X7_9 hX rfl dX7_step_20 ?_
      refine Wp_aload_n dX7_step_23 rfl 0 rfl ?_
      refine Wp_get (x := (nI (q))) fk_X7_22 hX rfl f3 dX7_step_24 ?_
      refine Wp_ild (n := q) (y := (nI (tt q))) hta rfl (by omega) (by decide) (show V1 ta q = nI (tt q) by rw [fr ta hxa]; exact (g3 q (by omega)).1) dX7_step_27 ?_
      refine Wp_bipush (v := (nI (32))) dX7_step_28 (by decide) ?_
      refine Wp_icmp_ne (tgt := 46) dX7_step_30 (by decide) (nI_toInt (by omega)) (nI_toInt (by omega)) (fun c_30 => ?_) (fun c_30 => ?_)
      · have hsq : skp tt n p = q := by rw [hsk]; exact skp_e (Or.inr (by omega))
        refine Wp_aload_n dX7_step_46 rfl 0 rfl ?_
        refine Wp_get (x := (nI (q))) fk_X7_22 hX rfl f3 dX7_step_47 ?_
        refine Wp_aload_n dX7_step_50 rfl 0 rfl ?_
        refine Wp_get (x := (nI (n))) fk_X7_25 hX rfl f1 dX7_step_51 ?_
        refine Wp_icmp_lt (tgt := 63) dX7_step_54 (by decide) (nI_toInt (by omega)) (nI_toInt (by omega)) (fun c_54 => ?_) (fun c_54 => ?_)
        · have g9 := (g3 q (by omega)).2
          refine Wp_aload_n dX7_step_63 rfl 0 rfl ?_
          refine Wp_aload_n dX7_step_64 rfl 0 rfl ?_
          refine Wp_getr fk_X7_9 hX rfl dX7_step_65 ?_
          refine Wp_aload_n dX7_step_68 rfl 0 rfl ?_
          refine Wp_get (x := (nI (q))) fk_X7_22 hX rfl f3 dX7_step_69 ?_
          refine Wp_ild (n := q) (y := (nI (tt q))) hta rfl (by omega) (by decide) (show V1 ta q = nI (tt q) by rw [fr ta hxa]; exact (g3 q (by omega)).1) dX7_step_72 ?_
          refine Wp_put fk_X7_28 hX rfl rfl rfl dX7_step_73 ?_
          refine Wp_aload_n dX7_step_76 rfl 0 rfl ?_
          refine Wp_aload_n dX7_step_77 rfl 0 rfl ?_
          refine Wp_get (x := (nI (q))) fk_X7_22 hX rfl ((up2_k (by decide)).trans f3) dX7_step_78 ?_
          refine Wp_iconst (v := (nI (1))) dX7_step_81 (by decide) ?_
          refine Wp_iadd (z := (nI ((q + 1)))) dX7_step_82 (nI_add _ _) ?_
          refine Wp_put fk_X7_15 hX rfl rfl rfl dX7_step_83 ?_
          refine Wp_aload_n dX7_step_86 rfl 0 rfl ?_
          refine Wp_get (x := (nI (tt q))) fk_X7_28 hX rfl ((up2_k (by decide)).trans up2_s) dX7_step_87 ?_
          refine Wp_callSg (c_X7_isDigit g9) YS_X7_isDigit ml_X7_31 dX7_step_90 (by omega) (by decide) (by omega) (by omega) rfl rfl (Nat.le_of_ble_eq_true rfl) ?_
          refine Wp_ifeq_b (tgt := 141) dX7_step_93 (by decide) (fun c_93 => ?_) (fun c_93 => ?_)
          · have hE : tkE tt n p = q + 1 := by unfold tkE; rw [hsq, if_neg (by rw [c_93]; decide)]
            exact Wp_vret rfl ⟨rfl, rfl, rfl, by
      have hT : tkT tt n p = tt q := by unfold tkT; rw [hsq, if_neg (by omega), if_neg (by rw [c_93]; simp)]
      refine ⟨⟨?_, ?_, fun w => ?_⟩, ?_, fun j hj => by rw [← fr j hj]; simp [up2, hj]⟩
      · rw [hT]; simp [up2, upd]; unfold ctk; rw [if_neg (by omega), if_neg (by omega)]
      · rw [hsq]; simp [up2, upd]; exact f3
      · rw [hE]; simp [up2, upd]
      · simp [up2, upd]; exact f1⟩ (Nat.le_refl _) (Nat.le_refl _) dX7_step_141
          · have hE : tkE tt n p = dgp tt n (q + 1) := by unfold tkE; rw [hsq, if_pos c_93]
            exact lp_X7_step2 hX hta t1 hp (n + 1) (q + 1) q _ (by omega) (by omega) (by omega) hsq c_93 hE (by simp [up2, upd]; exact f1) (by simp [up2, upd]; exact f3) (by simp [up2, upd]) (by simp [up2, upd]) (fun j hj => by rw [← fr j hj]; simp [up2, hj])
        · refine Wp_aload_n dX7_step_57 rfl 0 rfl ?_
          refine Wp_iconst (v := ((-1))) dX7_step_58 (by decide) ?_
          refine Wp_put fk_X7_28 hX rfl rfl rfl dX7_step_59 ?_
          exact Wp_vret rfl ⟨rfl, rfl, rfl, by
      have hT : tkT tt n p = 300 := by unfold tkT; rw [hsq, if_pos (by omega)]
      refine ⟨⟨by rw [hT, up2_s]; rfl, by rw [hsq, up2_k (by decide)]; exact f3, fun w => absurd hT w⟩, by rw [up2_k (by decide)]; exact f1, fun j hj => by rw [← fr j hj]; simp [up2, hj]⟩⟩ (Nat.le_refl _) (Nat.le_refl _) dX7_step_62
      · refine Wp_aload_n dX7_step_33 rfl 0 rfl ?_
        refine Wp_dup dX7_step_34 rfl ?_
        refine Wp_get (x := (nI (q))) fk_X7_22 hX rfl f3 dX7_step_35 ?_
        refine Wp_iconst (v := (nI (1))) dX7_step_38 (by decide) ?_
        refine Wp_iadd (z := (nI ((q + 1)))) dX7_step_39 (nI_add _ _) ?_
        refine Wp_put fk_X7_22 hX rfl rfl rfl dX7_step_40 ?_
        refine Wp_goto (tgt := 8) dX7_step_43 (by decide) ?_
        exact ih (q + 1) _ (by omega) (by omega) (by omega) (by rw [hsk]; exact skp_s (by omega) (by omega)) (by rw [up2_k (by decide)]; exact f1) (by rw [up2_s]) (fun j hj => by rw [← fr j hj]; simp [up2, hj])
theorem c_X7_step {E : wE} {S : List wK} {ad : Nat → Nat} {V : wV} {x ta : Nat} (hX : S[x]? = some (.inl (7, [some (some ta), none, none, none, none]))) (hta : S[ta]? = some (.inr (.inl (false, 120)))) {n : Nat} {tt : Nat → Nat} (t0 : TX V x ta n tt) {p : Nat} (hp : p ≤ n) (h4 : V x 4 = nI p) : w_C E mX7_step (w_R 1 0 0) 0 0 [.ref (ad (x))] S ad V (w_v S ad (fun V' => AT V' x n tt p ∧ V' x 1 = nI n ∧ ∀ j, j ≠ x → V' j = V j)) := by
  refine w_C.of (by decide) (Nat.le_of_ble_eq_true rfl) ?_
  show Wp _ _ _ _ _ _ _ _ _ [(0, .ref (ad (x)))] [] S ad V
  refine Wp_aload_n dX7_step_0 rfl 0 rfl ?_
  refine Wp_aload_n dX7_step_1 rfl 0 rfl ?_
  refine Wp_get (x := (nI (p))) fk_X7_15 hX rfl h4 dX7_step_2 ?_
  refine Wp_put fk_X7_22 hX rfl rfl rfl dX7_step_5 ?_
  exact lp_X7_step1 hX hta t0 hp (n + 1) p _ (by omega) hp (by omega) rfl (by rw [up2_k (by decide)]; exact t0.1) (by rw [up2_s]) (fun j hj => by simp [up2, hj])
theorem c_X7_rewind {E : wE} {S : List wK} {ad : Nat → Nat} {V : wV} {x ta : Nat} (hX : S[x]? = some (.inl (7, [some (some ta), none, none, none, none]))) (hta : S[ta]? = some (.inr (.inl (false, 120)))) {n : Nat} {tt : Nat → Nat} (t0 : TX V x ta n tt) : w_C E mX7_rewind (w_R 2 0 0) 0 0 [.ref (ad (x))] S ad V (w_v S ad (fun V' => AT V' x n tt 0 ∧ V' x 1 = nI n ∧ ∀ j, j ≠ x → V' j = V j)) := by
  refine w_C.of (by decide) (Nat.le_of_ble_eq_true rfl) ?_
  show Wp _ _ _ _ _ _ _ _ _ [(0, .ref (ad (x)))] [] S ad V
  have hxa : ta ≠ x := w_ne hta hX (by simp)
  have t1 : TX (up2 V x 4 (nI 0)) x ta n tt := ⟨by rw [up2_k (by decide)]; exact t0.1, t0.2.1, fun k hk => by rw [up2_i hxa]; exact t0.2.2 k hk⟩
  refine Wp_aload_n dX7_rewind_0 rfl 0 rfl ?_
  refine Wp_iconst (v := (nI (0))) dX7_rewind_1 (by decide) ?_
  refine Wp_put fk_X7_15 hX rfl rfl rfl dX7_rewind_2 ?_
  refine Wp_aload_n dX7_rewind_5 rfl 0 rfl ?_
  refine Wp_callVv (c_X7_step hX hta t1 (Nat.zero_le n) up2_s) YV_X7_step ml_X7_19 hX rfl dX7_rewind_6 (by omega) (by decide) (by omega) (by omega) rfl rfl (Nat.le_of_ble_eq_true rfl) (fun V1 hV1 => ?_)
  exact Wp_vret rfl ⟨rfl, rfl, rfl, ⟨hV1.1, hV1.2.1, fun j hj => by rw [hV1.2.2 j hj]; simp [up2, hj]⟩⟩ (Nat.le_refl _) (Nat.le_refl _) dX7_rewind_9
end
section
/-! READING: what the text tells, item by item (a pure picture that both sides keep) -/
theorem w_sub_toInt {a b : Int32} (h1 : -2147483648 ≤ a.toInt - b.toInt) (h2 : a.toInt - b.toInt < 2147483648) : (a - b).toInt = a.toInt - b.toInt := by
  rw [Int32.toInt_sub]
  exact Int.bmod_eq_of_le (by omega) (by omega)
theorem nI_or (a b : Nat) : nI a ||| nI b = nI (a ||| b) := by
  apply Int32.toBitVec_inj.mp
  show BitVec.ofNat 32 a ||| BitVec.ofNat 32 b = BitVec.ofNat 32 (a ||| b)
  rw [BitVec.ofNat_or]
/-- colours, sizes, how many sentences, their lengths, letters; places (0: not told) -/
abbrev aP : Type := (Nat → Nat) × (Nat → Nat) × Nat × (Nat → Nat) × (Nat → Nat → Nat) × Nat
def pEnd (tt : Nat → Nat) (n p : Nat) (x : aP) : Bool × Nat × aP := if tkT tt n p = 59 then (true, tkE tt n p, x) else (false, p, x)
def pPl (tt : Nat → Nat) (n p : Nat) (x : aP) : Bool × Nat × aP := if x.2.2.2.2.2 ≠ 0 then (false, p, x) else
  if 51 ≤ tkT tt n (tkE tt n p) ∧ tkT tt n (tkE tt n p) ≤ 55 then (true, tkE tt n (tkE tt n p), (x.1, x.2.1, x.2.2.1, x.2.2.2.1, x.2.2.2.2.1, tkT tt n (tkE tt n p) - 48)) else (false, tkE tt n p, x)
def pFl (tt : Nat → Nat) (n p : Nat) (x : aP) : Bool × Nat × aP :=
  if 97 ≤ tkT tt n (tkE tt n p) ∧ tkT tt n (tkE tt n p) ≤ 104 then
    if 48 ≤ tkT tt n (tkE tt n (tkE tt n p)) ∧ tkT tt n (tkE tt n (tkE tt n p)) ≤ 55 then
      if 49 ≤ tkT tt n (tkE tt n (tkE tt n (tkE tt n p))) ∧ tkT tt n (tkE tt n (tkE tt n (tkE tt n p))) ≤ 57 then
        (true, tkE tt n (tkE tt n (tkE tt n (tkE tt n p))), (va_up x.1 (tkT tt n (tkE tt n p) - 97) (tkT tt n (tkE tt n (tkE tt n p)) - 48), va_up x.2.1 (tkT tt n (tkE tt n p) - 97) (tkT tt n (tkE tt n (tkE tt n (tkE tt n p))) - 48), x.2.2))
      else (false, tkE tt n (tkE tt n (tkE tt n p)), x)
    else (false, tkE tt n (tkE tt n p), x)
  else (false, tkE tt n p, x)
/-- letters of a code: how many, where they end, which -/
def cdf (tt : Nat → Nat) (n : Nat) : Nat → Nat → Nat → (Nat → Nat) → Nat × Nat × (Nat → Nat)
  | 0, i, p, g => (i, p, g)
  | f + 1, i, p, g => if 97 ≤ tkT tt n p ∧ tkT tt n p ≤ 104 then cdf tt n f (i + 1) (tkE tt n p) (va_up g i (tkT tt n p - 97)) else (i, p, g)
def sme (x : aP) (L : Nat) (g : Nat → Nat) : Bool := decide (∃ s, s < x.2.2.1 ∧ x.2.2.2.1 s = L ∧ ∀ i, i < L → x.2.2.2.2.1 s i = g i)
def adc (x : aP) (L : Nat) (g : Nat → Nat) : aP := (x.1, x.2.1, x.2.2.1 + 1, va_up x.2.2.2.1 x.2.2.1 L, va_up x.2.2.2.2.1 x.2.2.1 g, x.2.2.2.2.2)
def pCd (tt : Nat → Nat) (n p : Nat) (x : aP) : Bool × Nat × aP := if 10 ≤ x.2.2.1 then (false, p, x) else
  if (cdf tt n 4 0 (tkE tt n p) (fun _ => 0)).1 = 0 ∨ sme x (cdf tt n 4 0 (tkE tt n p) (fun _ => 0)).1 (cdf tt n 4 0 (tkE tt n p) (fun _ => 0)).2.2 = true then (false, (cdf tt n 4 0 (tkE tt n p) (fun _ => 0)).2.1, x)
  else (true, (cdf tt n 4 0 (tkE tt n p) (fun _ => 0)).2.1, adc x (cdf tt n 4 0 (tkE tt n p) (fun _ => 0)).1 (cdf tt n 4 0 (tkE tt n p) (fun _ => 0)).2.2)
def pIt0 (tt : Nat → Nat) (n p : Nat) (x : aP) : Bool × Nat × aP := if tkT tt n p = 112 then pPl tt n p x else if tkT tt n p = 102 then pFl tt n p x else if tkT tt n p = 107 then pCd tt n p x else (false, p, x)
def pIt (tt : Nat → Nat) (n p : Nat) (x : aP) : Bool × Nat × aP := if (pIt0 tt n p x).1 = true then pEnd tt n (pIt0 tt n p x).2.1 (pIt0 tt n p x).2.2 else pIt0 tt n p x
/-- all items: ok, how many, where it stands, what was told -/
def pAll (tt : Nat → Nat) (n : Nat) : Nat → Nat → Nat → aP → Bool × Nat × Nat × aP
  | 0, i, p, x => (true, i, p, x)
  | f + 1, i, p, x => if tkT tt n p = 300 then (true, i, p, x) else if (pIt tt n p x).1 = true then pAll tt n f (i + 1) (pIt tt n p x).2.1 (pIt tt n p x).2.2 else (false, i, (pIt tt n p x).2.1, x)
def x0P : aP := (fun f => f, fun _ => 5, 0, fun _ => 0, fun _ _ => 0, 0)
theorem tkE_le {tt : Nat → Nat} {n p : Nat} (h : p ≤ n) (h2 : tkT tt n p ≠ 300) : tkE tt n p ≤ n := (tkE_gt h h2).2.1
theorem cdf_le {tt : Nat → Nat} {n : Nat} (f i p : Nat) (g : Nat → Nat) (hp : p ≤ n) : (cdf tt n f i p g).2.1 ≤ n ∧ p ≤ (cdf tt n f i p g).2.1 ∧ i ≤ (cdf tt n f i p g).1 ∧ (cdf tt n f i p g).1 ≤ i + f := by
  induction f generalizing i p g with
  | zero => simp only [cdf]; omega
  | succ f ih =>
    simp only [cdf]
    split
    · have q := tkE_gt hp (show tkT tt n p ≠ 300 by omega)
      have := ih (i + 1) (tkE tt n p) (va_up g i (tkT tt n p - 97)) q.2.1
      omega
    · simp only; omega
theorem cdf_lt {tt : Nat → Nat} {n : Nat} (f i p : Nat) (g : Nat → Nat) (hg : ∀ j, j < i → g j < 8) : ∀ j, j < (cdf tt n f i p g).1 → (cdf tt n f i p g).2.2 j < 8 := by
  induction f generalizing i p g with
  | zero => simpa only [cdf] using hg
  | succ f ih =>
    simp only [cdf]
    split
    · apply ih
      intro j hj
      unfold va_up
      split
      · omega
      · exact hg j (by omega)
    · simpa only using hg
theorem pIt_le {tt : Nat → Nat} {n p : Nat} {x : aP} (hp : p ≤ n) (ht : tkT tt n p ≠ 300) (h : (pIt tt n p x).1 = true) : p < (pIt tt n p x).2.1 ∧ (pIt tt n p x).2.1 ≤ n := by
  have e1 := tkE_gt hp ht
  have key : (pIt0 tt n p x).1 = true → p < (pIt0 tt n p x).2.1 ∧ (pIt0 tt n p x).2.1 ≤ n := by
    unfold pIt0
    split
    · unfold pPl
      split
      · simp
      · split
        · intro _; have := tkE_gt e1.2.1 (show tkT tt n (tkE tt n p) ≠ 300 by omega); simp only; omega
        · simp
    · split
      · unfold pFl
        split
        · have e2 := tkE_gt e1.2.1 (show tkT tt n (tkE tt n p) ≠ 300 by omega)
          split
          · have e3 := tkE_gt e2.2.1 (show tkT tt n (tkE tt n (tkE tt n p)) ≠ 300 by omega)
            split
            · intro _; have := tkE_gt e3.2.1 (show tkT tt n (tkE tt n (tkE tt n (tkE tt n p))) ≠ 300 by omega); simp only; omega
            · simp
          · simp
        · simp
      · split
        · unfold pCd
          split
          · simp
          · have q := cdf_le (tt := tt) (n := n) 4 0 (tkE tt n p) (fun _ => 0) e1.2.1
            split
            · simp
            · intro _; simp only; omega
        · simp
  unfold pIt at h ⊢
  split
  · rename_i h1
    have k := key h1
    rw [if_pos h1] at h
    unfold pEnd at h ⊢
    split
    · rename_i h2
      have := tkE_gt k.2 (show tkT tt n (pIt0 tt n p x).2.1 ≠ 300 by omega)
      simp only; omega
    · rename_i h2
      rw [if_neg h2] at h; simp at h
  · rename_i h1
    rw [if_neg h1] at h
    exact absurd h h1
/-- the reader's draft holds what was told -/
def DR (V : wV) (rd db dc dz dk : Nat) (y : aP) : Prop := FG V dc dz y.1 y.2.1 ∧ BK V db dk y.2.2.1 y.2.2.2.1 y.2.2.2.2.1 ∧ V db 4 = nI (if y.2.2.2.2.2 = 0 then 5 else y.2.2.2.2.2) ∧ V rd 2 = bI (decide (y.2.2.2.2.2 ≠ 0)) ∧ y.2.2.2.2.2 ≤ 7
theorem DR.of {V V' : wV} {rd db dc dz dk : Nat} {y : aP} (h : DR V rd db dc dz dk y) (h1 : V' rd = V rd) (h2 : V' db = V db) (h3 : V' dc = V dc) (h4 : V' dz = V dz) (h5 : V' dk = V dk) : DR V' rd db dc dz dk y := by
  unfold DR FG BK; rw [h1, h2, h3, h4, h5]; exact h
theorem TX.of {V V' : wV} {x ta n : Nat} {tt : Nat → Nat} (h : TX V x ta n tt) (h1 : V' x 1 = nI n) (h2 : V' ta = V ta) : TX V' x ta n tt := by
  unfold TX; rw [h1, h2]; exact ⟨rfl, h.2⟩
theorem AT.of {V V' : wV} {x n p : Nat} {tt : Nat → Nat} (h : AT V x n tt p) (h1 : V' x = V x) : AT V' x n tt p := by
  unfold AT; rw [h1]; exact h
theorem ctk_ne {t : Nat} (h : t < 256) : ctk t = nI t := by unfold ctk; rw [if_neg (by omega), if_neg (by omega)]
theorem c_X3_take {E : wE} {S : List wK} {ad : Nat → Nat} {V : wV} {rd x ta db : Nat} (hR : S[rd]? = some (.inl (3, [some (some db), some (some x), none]))) (hX : S[x]? = some (.inl (7, [some (some ta), none, none, none, none]))) (hta : S[ta]? = some (.inr (.inl (false, 120)))) {n : Nat} {tt : Nat → Nat} (t0 : TX V x ta n tt) {p : Nat} (hp : p ≤ n) (at0 : AT V x n tt p) {z lo hi : Nat} (hz : z + hi < 256) (hlo : lo ≤ hi) : w_C E mX3_take (w_R 2 0 0) 0 0 [.ref (ad (rd)), .int (nI (z)), .int (nI (lo)), .int (nI (hi))] S ad V (w_i S ad (fun r V' => (z + lo ≤ tkT tt n p ∧ tkT tt n p ≤ z + hi ∧ r = nI (tkT tt n p - z) ∧ TX V' x ta n tt ∧ AT V' x n tt (tkE tt n p) ∧ ∀ j, j ≠ x → V' j = V j) ∨ (¬ (z + lo ≤ tkT tt n p ∧ tkT tt n p ≤ z + hi) ∧ r = -9 ∧ V' = V))) := by
  refine w_C.of (by decide) (Nat.le_of_ble_eq_true rfl) ?_
  show Wp _ _ _ _ _ _ _ _ _ [(0, .ref (ad (rd))), (1, .int (nI (z))), (2, .int (nI (lo))), (3, .int (nI (hi)))] [] S ad V
  have hxa : ta ≠ x := w_ne hta hX (by simp)
  have hT := tkT_le (p := p) (fun k hk => (t0.2.2 k hk).2)
  have hci := ctk_toInt hT.1
  have hzi : (nI z).toInt = z := nI_toInt (by omega)
  have hsub : (ctk (tkT tt n p) - nI z).toInt = (if tkT tt n p = 300 then -1 else if tkT tt n p = 301 then -2 else (tkT tt n p : Int)) - z := by
    rw [w_sub_toInt, hci, hzi]
    · rw [hci, hzi]; split
      · omega
      · split <;> omega
    · rw [hci, hzi]; split
      · omega
      · split <;> omega
  obtain ⟨D, hD⟩ : ∃ D : Int, D = (if tkT tt n p = 300 then -1 else if tkT tt n p = 301 then -2 else (tkT tt n p : Int)) - z := ⟨_, rfl⟩
  rw [← hD] at hsub
  have hD2 : (tkT tt n p < 256 ∧ D = (tkT tt n p : Int) - z) ∨ (300 ≤ tkT tt n p ∧ D < 0) := by
    rcases hT.2 with q | q | q
    · left; rw [if_neg (by omega), if_neg (by omega)] at hD; exact ⟨q, hD⟩
    · right; rw [if_pos q] at hD; omega
    · right; rw [if_neg (by omega), if_pos q] at hD; omega
  refine Wp_aload_n dX3_take_0 rfl 0 rfl ?_
  refine Wp_getr fk_X3_9 hR rfl dX3_take_1 ?_
  refine Wp_get (x := (ctk (tkT tt n p))) fk_X3_34 hX rfl at0.1 dX3_take_4 ?_
  refine Wp_iload_n dX3_take_7 rfl 1 rfl ?_
  refine Wp_isub (z := (((ctk (tkT tt n p)) - (nI (z))))) dX3_take_8 rfl ?_
  refine Wp_istore (lv' := [(4, .int (((ctk (tkT tt n p)) - (nI (z))))), (0, .ref (ad (rd))), (1, .int (nI (z))), (2, .int (nI (lo))), (3, .int (nI (hi)))]) dX3_take_9 (by decide) rfl ?_
  refine Wp_iload dX3_take_11 0 rfl ?_
  refine Wp_iload_n dX3_take_13 rfl 3 rfl ?_
  refine Wp_icmp_lt (tgt := 23) dX3_take_14 (by decide) (hsub) (nI_toInt (by omega)) (fun c_14 => ?_) (fun c_14 => ?_)
  · refine Wp_bipush (v := ((-9))) dX3_take_23 (by decide) ?_
    exact Wp_iret rfl ⟨rfl, rfl, _, rfl, Or.inr ⟨by omega, rfl, rfl⟩⟩ (Nat.le_refl _) (Nat.le_refl _) dX3_take_25
  · refine Wp_iload dX3_take_17 0 rfl ?_
    refine Wp_iload_n dX3_take_19 rfl 4 rfl ?_
    refine Wp_icmp_le (tgt := 26) dX3_take_20 (by decide) (hsub) (nI_toInt (by omega)) (fun c_20 => ?_) (fun c_20 => ?_)
    · have h256 : tkT tt n p < 256 := by omega
      have hb := at0.2.2 (by omega)
      refine Wp_aload_n dX3_take_26 rfl 1 rfl ?_
      refine Wp_getr fk_X3_9 hR rfl dX3_take_27 ?_
      refine Wp_callVv (c_X7_step hX hta t0 (tkE_le hp (by omega)) hb) YV_X7_step ml_X3_58 hX rfl dX3_take_30 (by omega) (by decide) (by omega) (by omega) rfl rfl (Nat.le_of_ble_eq_true rfl) (fun V1 hV1 => ?_)
      refine Wp_iload dX3_take_33 0 rfl ?_
      exact Wp_iret rfl ⟨rfl, rfl, _, rfl, Or.inl ⟨by omega, by omega, by rw [ctk_ne h256, pk_sub (by omega)], t0.of hV1.2.1 (hV1.2.2 ta hxa), hV1.1, hV1.2.2⟩⟩ (Nat.le_refl _) (Nat.le_refl _) dX3_take_35
    · refine Wp_bipush (v := ((-9))) dX3_take_23 (by decide) ?_
      exact Wp_iret rfl ⟨rfl, rfl, _, rfl, Or.inr ⟨by omega, rfl, rfl⟩⟩ (Nat.le_refl _) (Nat.le_refl _) dX3_take_25
theorem DR.step {V V' : wV} {rd db dc dz dk x : Nat} {y : aP} (h : DR V rd db dc dz dk y) (n1 : rd ≠ x) (n2 : db ≠ x) (n3 : dc ≠ x) (n4 : dz ≠ x) (n5 : dk ≠ x) (fr : ∀ j, j ≠ x → V' j = V j) : DR V' rd db dc dz dk y := h.of (fr _ n1) (fr _ n2) (fr _ n3) (fr _ n4) (fr _ n5)
end
section
/-! READING: places, a flag, a code, an item, all -/
theorem c_X3_readPlaces {E : wE} {S : List wK} {ad : Nat → Nat} {V : wV} {rd x ta db dc dz dk : Nat} (hR : S[rd]? = some (.inl (3, [some (some db), some (some x), none]))) (hX : S[x]? = some (.inl (7, [some (some ta), none, none, none, none]))) (hta : S[ta]? = some (.inr (.inl (false, 120)))) (hB : S[db]? = some (.inl (0, [some (some dc), some (some dz), some (some dk), none, none]))) (hc : S[dc]? = some (.inr (.inl (false, 8)))) (hz : S[dz]? = some (.inr (.inl (false, 8)))) (hk : S[dk]? = some (.inr (.inl (false, 10)))) {n : Nat} {tt : Nat → Nat} (t0 : TX V x ta n tt) {p : Nat} (hp : p ≤ n) (at0 : AT V x n tt p) {y : aP} (dr : DR V rd db dc dz dk y) (hcz : dc ≠ dz) (ht3 : tkT tt n p ≠ 300)  : w_C E mX3_readPlaces (w_R 3 0 0) 0 0 [.ref (ad (rd))] S ad V (w_i S ad (fun r V' => r = bI (pPl tt n p y).1 ∧ TX V' x ta n tt ∧ AT V' x n tt (pPl tt n p y).2.1 ∧ ((pPl tt n p y).1 = true → DR V' rd db dc dz dk (pPl tt n p y).2.2) ∧ ∀ j, j ≠ x → j ≠ rd → j ≠ db → j ≠ dc → j ≠ dz → j ≠ dk → V' j = V j)) := by
  refine w_C.of (by decide) (Nat.le_of_ble_eq_true rfl) ?_
  show Wp _ _ _ _ _ _ _ _ _ [(0, .ref (ad (rd)))] [] S ad V
  have hxa : ta ≠ x := w_ne hta hX (by simp)
  have n1 : rd ≠ x := w_ne hR hX (by simp)
  have n2 : db ≠ x := w_ne hB hX (by simp)
  have n3 : dc ≠ x := w_ne hc hX (by simp)
  have n4 : dz ≠ x := w_ne hz hX (by simp)
  have n5 : dk ≠ x := w_ne hk hX (by simp)
  have m1 : rd ≠ db := w_ne hR hB (by simp)
  have m2 : dc ≠ rd := w_ne hc hR (by simp)
  have m3 : dz ≠ rd := w_ne hz hR (by simp)
  have m4 : dk ≠ rd := w_ne hk hR (by simp)
  have m5 : dc ≠ db := w_ne hc hB (by simp)
  have m6 : dz ≠ db := w_ne hz hB (by simp)
  have m7 : dk ≠ db := w_ne hk hB (by simp)
  have m8 : dk ≠ dc := w_ne hk hc (by simp)
  have m9 : dk ≠ dz := w_ne hk hz (by simp)
  have w1 : ta ≠ rd := w_ne hta hR (by simp)
  have w2 : ta ≠ db := w_ne hta hB (by simp)
  have w3 : ta ≠ dc := w_ne hta hc (by simp)
  have w4 : ta ≠ dz := w_ne hta hz (by simp)
  have w5 : ta ≠ dk := w_ne hta hk (by simp)
  refine Wp_aload_n dX3_readPlaces_0 rfl 0 rfl ?_
  refine Wp_get (x := (bI (decide (y.2.2.2.2.2 ≠ 0)))) fk_X3_25 hR rfl dr.2.2.2.1 dX3_readPlaces_1 ?_
  refine Wp_ifeq_b (tgt := 9) dX3_readPlaces_4 (by decide) (fun c_4 => ?_) (fun c_4 => ?_)
  · have hpl : y.2.2.2.2.2 = 0 := by have := of_decide_eq_false c_4; omega
    refine Wp_aload_n dX3_readPlaces_9 rfl 0 rfl ?_
    refine Wp_getr fk_X3_9 hR rfl dX3_readPlaces_10 ?_
    refine Wp_callVv (c_X7_step hX hta t0 (tkE_le hp ht3) (at0.2.2 ht3)) YV_X7_step ml_X3_58 hX rfl dX3_readPlaces_13 (by omega) (by decide) (by omega) (by omega) rfl rfl (Nat.le_of_ble_eq_true rfl) (fun V1 hV1 => ?_)
    have hp1 := tkE_le hp ht3
    have t1 : TX V1 x ta n tt := t0.of hV1.2.1 (hV1.2.2 ta hxa)
    have a1 := hV1.1
    have d1 : DR V1 rd db dc dz dk y := dr.step n1 n2 n3 n4 n5 hV1.2.2
    refine Wp_aload_n dX3_readPlaces_16 rfl 0 rfl ?_
    refine Wp_bipush (v := (nI (48))) dX3_readPlaces_17 (by decide) ?_
    refine Wp_iconst (v := (nI (3))) dX3_readPlaces_19 (by decide) ?_
    refine Wp_bipush (v := (nI (7))) dX3_readPlaces_20 (by decide) ?_
    refine Wp_callVi (c_X3_take hR hX hta t1 hp1 a1 (z := 48) (lo := 3) (hi := 7) (by omega) (by omega)) YV_X3_take ml_X3_54 hR rfl dX3_readPlaces_22 (by omega) (by decide) (by omega) (by omega) rfl rfl (Nat.le_of_ble_eq_true rfl) (fun r2 V2 hr2 => ?_)
    rcases hr2 with ⟨y2, z2, rfl, t2, a2, fr2⟩ | ⟨y2, rfl, rfl⟩
    · have hp2 := tkE_le hp1 (show tkT tt n (tkE tt n p) ≠ 300 by omega)
      refine Wp_istore_n (lv' := [(1, .int (nI ((tkT tt n (tkE tt n p) - 48)))), (0, .ref (ad (rd)))]) dX3_readPlaces_25 rfl (by decide) rfl ?_
      refine Wp_iload_n dX3_readPlaces_26 rfl 0 rfl ?_
      refine Wp_bipush (v := ((-9))) dX3_readPlaces_27 (by decide) ?_
      refine Wp_icmp_ne (tgt := 34) dX3_readPlaces_29 (by decide) (nI_toInt (by omega)) ((by decide : ((-9) : Int32).toInt = (-9))) (fun c_29 => ?_) (fun c_29 => absurd c_29 (by omega))
      refine Wp_aload_n dX3_readPlaces_34 rfl 1 rfl ?_
      refine Wp_getr fk_X3_18 hR rfl dX3_readPlaces_35 ?_
      refine Wp_iload_n dX3_readPlaces_38 rfl 0 rfl ?_
      refine Wp_put fk_X3_61 hB rfl rfl rfl dX3_readPlaces_39 ?_
      refine Wp_aload_n dX3_readPlaces_42 rfl 1 rfl ?_
      refine Wp_iconst (v := (nI (1))) dX3_readPlaces_43 (by decide) ?_
      refine Wp_put fk_X3_25 hR rfl rfl rfl dX3_readPlaces_44 ?_
      refine Wp_iconst (v := (nI (1))) dX3_readPlaces_47 (by decide) ?_
      exact Wp_zret (b := true) rfl rfl ⟨rfl, rfl, _, rfl, by
    have e : pPl tt n p y = (true, tkE tt n (tkE tt n p), (y.1, y.2.1, y.2.2.1, y.2.2.2.1, y.2.2.2.2.1, tkT tt n (tkE tt n p) - 48)) := by unfold pPl; rw [if_neg (by omega), if_pos (by omega)]
    have d2 := d1.step n1 n2 n3 n4 n5 fr2
    rw [e]
    refine ⟨rfl, t2.of (by simp [up2, Ne.symm n1, Ne.symm n2]; exact t2.1) (by simp [up2, w1, w2]), a2.of (by simp [up2, Ne.symm n1, Ne.symm n2]), fun _ => ⟨?_, ?_, ?_, ?_, ?_⟩, fun j q1 q2 q3 q4 q5 q6 => ?_⟩
    · intro f hf; rw [up2_i m2, up2_i m5, up2_i m3, up2_i m6]; exact d2.1 f hf
    · refine ⟨by simp [up2, upd, Ne.symm m1]; exact d2.2.1.1, d2.2.1.2.1, fun s hs => ?_⟩
      rw [up2_i m4, up2_i m7]; exact d2.2.1.2.2 s hs
    · simp [up2, upd, Ne.symm m1]; rw [if_neg (by omega)]
    · rw [up2_s]; simp only; rw [decide_eq_true (by omega)]; rfl
    · simp only; omega
    · rw [← hV1.2.2 j q1, ← fr2 j q1]; simp [up2, q2, q3]⟩ (Nat.le_refl _) (Nat.le_refl _) dX3_readPlaces_48
    · refine Wp_istore_n (lv' := [(1, .int ((-9))), (0, .ref (ad (rd)))]) dX3_readPlaces_25 rfl (by decide) rfl ?_
      refine Wp_iload_n dX3_readPlaces_26 rfl 0 rfl ?_
      refine Wp_bipush (v := ((-9))) dX3_readPlaces_27 (by decide) ?_
      refine Wp_icmp_ne (tgt := 34) dX3_readPlaces_29 (by decide) ((by decide : ((-9) : Int32).toInt = (-9))) ((by decide : ((-9) : Int32).toInt = (-9))) (fun c_29 => absurd c_29 (by omega)) (fun c_29 => ?_)
      refine Wp_iconst (v := (nI (0))) dX3_readPlaces_32 (by decide) ?_
      exact Wp_zret (b := false) rfl rfl ⟨rfl, rfl, _, rfl, by
    have e : pPl tt n p y = (false, tkE tt n p, y) := by unfold pPl; rw [if_neg (by omega), if_neg (by omega)]
    rw [e]; exact ⟨rfl, t1, a1, fun w => (by cases w), fun j q1 q2 q3 q4 q5 q6 => by rw [hV1.2.2 j q1]⟩⟩ (Nat.le_refl _) (Nat.le_refl _) dX3_readPlaces_33
  · have hpl := of_decide_eq_true c_4
    refine Wp_iconst (v := (nI (0))) dX3_readPlaces_7 (by decide) ?_
    exact Wp_zret (b := false) rfl rfl ⟨rfl, rfl, _, rfl, by
    have e : pPl tt n p y = (false, p, y) := by unfold pPl; rw [if_pos hpl]
    rw [e]; exact ⟨rfl, t0, at0, fun w => (by cases w), fun _ _ _ _ _ _ _ => rfl⟩⟩ (Nat.le_refl _) (Nat.le_refl _) dX3_readPlaces_8
theorem c_X3_readFlag {E : wE} {S : List wK} {ad : Nat → Nat} {V : wV} {rd x ta db dc dz dk : Nat} (hR : S[rd]? = some (.inl (3, [some (some db), some (some x), none]))) (hX : S[x]? = some (.inl (7, [some (some ta), none, none, none, none]))) (hta : S[ta]? = some (.inr (.inl (false, 120)))) (hB : S[db]? = some (.inl (0, [some (some dc), some (some dz), some (some dk), none, none]))) (hc : S[dc]? = some (.inr (.inl (false, 8)))) (hz : S[dz]? = some (.inr (.inl (false, 8)))) (hk : S[dk]? = some (.inr (.inl (false, 10)))) {n : Nat} {tt : Nat → Nat} (t0 : TX V x ta n tt) {p : Nat} (hp : p ≤ n) (at0 : AT V x n tt p) {y : aP} (dr : DR V rd db dc dz dk y) (hcz : dc ≠ dz) (ht3 : tkT tt n p ≠ 300)  : w_C E mX3_readFlag (w_R 3 0 0) 0 0 [.ref (ad (rd))] S ad V (w_i S ad (fun r V' => r = bI (pFl tt n p y).1 ∧ TX V' x ta n tt ∧ AT V' x n tt (pFl tt n p y).2.1 ∧ ((pFl tt n p y).1 = true → DR V' rd db dc dz dk (pFl tt n p y).2.2) ∧ ∀ j, j ≠ x → j ≠ rd → j ≠ db → j ≠ dc → j ≠ dz → j ≠ dk → V' j = V j)) := by
  refine w_C.of (by decide) (Nat.le_of_ble_eq_true rfl) ?_
  show Wp _ _ _ _ _ _ _ _ _ [(0, .ref (ad (rd)))] [] S ad V
  have hxa : ta ≠ x := w_ne hta hX (by simp)
  have n1 : rd ≠ x := w_ne hR hX (by simp)
  have n2 : db ≠ x := w_ne hB hX (by simp)
  have n3 : dc ≠ x := w_ne hc hX (by simp)
  have n4 : dz ≠ x := w_ne hz hX (by simp)
  have n5 : dk ≠ x := w_ne hk hX (by simp)
  have m1 : rd ≠ db := w_ne hR hB (by simp)
  have m2 : dc ≠ rd := w_ne hc hR (by simp)
  have m3 : dz ≠ rd := w_ne hz hR (by simp)
  have m4 : dk ≠ rd := w_ne hk hR (by simp)
  have m5 : dc ≠ db := w_ne hc hB (by simp)
  have m6 : dz ≠ db := w_ne hz hB (by simp)
  have m7 : dk ≠ db := w_ne hk hB (by simp)
  have m8 : dk ≠ dc := w_ne hk hc (by simp)
  have m9 : dk ≠ dz := w_ne hk hz (by simp)
  have w1 : ta ≠ rd := w_ne hta hR (by simp)
  have w2 : ta ≠ db := w_ne hta hB (by simp)
  have w3 : ta ≠ dc := w_ne hta hc (by simp)
  have w4 : ta ≠ dz := w_ne hta hz (by simp)
  have w5 : ta ≠ dk := w_ne hta hk (by simp)
  refine Wp_aload_n dX3_readFlag_0 rfl 0 rfl ?_
  refine Wp_getr fk_X3_9 hR rfl dX3_readFlag_1 ?_
  refine Wp_callVv (c_X7_step hX hta t0 (tkE_le hp ht3) (at0.2.2 ht3)) YV_X7_step ml_X3_58 hX rfl dX3_readFlag_4 (by omega) (by decide) (by omega) (by omega) rfl rfl (Nat.le_of_ble_eq_true rfl) (fun V1 hV1 => ?_)
  have hp1 := tkE_le hp ht3
  have t1 : TX V1 x ta n tt := t0.of hV1.2.1 (hV1.2.2 ta hxa)
  have a1 := hV1.1
  have d1 : DR V1 rd db dc dz dk y := dr.step n1 n2 n3 n4 n5 hV1.2.2
  refine Wp_aload_n dX3_readFlag_7 rfl 0 rfl ?_
  refine Wp_bipush (v := (nI (97))) dX3_readFlag_8 (by decide) ?_
  refine Wp_iconst (v := (nI (0))) dX3_readFlag_10 (by decide) ?_
  refine Wp_bipush (v := (nI (7))) dX3_readFlag_11 (by decide) ?_
  refine Wp_callVi (c_X3_take hR hX hta t1 hp1 a1 (z := 97) (lo := 0) (hi := 7) (by omega) (by omega)) YV_X3_take ml_X3_54 hR rfl dX3_readFlag_13 (by omega) (by decide) (by omega) (by omega) rfl rfl (Nat.le_of_ble_eq_true rfl) (fun r2 V2 hr2 => ?_)
  rcases hr2 with ⟨y2, z2, rfl, t2, a2, fr2⟩ | ⟨y2, rfl, rfl⟩
  · have hp2 := tkE_le hp1 (show tkT tt n (tkE tt n p) ≠ 300 by omega)
    refine Wp_istore_n (lv' := [(1, .int (nI ((tkT tt n (tkE tt n p) - 97)))), (0, .ref (ad (rd)))]) dX3_readFlag_16 rfl (by decide) rfl ?_
    refine Wp_iload_n dX3_readFlag_17 rfl 0 rfl ?_
    refine Wp_bipush (v := ((-9))) dX3_readFlag_18 (by decide) ?_
    refine Wp_icmp_ne (tgt := 25) dX3_readFlag_20 (by decide) (nI_toInt (by omega)) ((by decide : ((-9) : Int32).toInt = (-9))) (fun c_20 => ?_) (fun c_20 => absurd c_20 (by omega))
    refine Wp_aload_n dX3_readFlag_25 rfl 1 rfl ?_
    refine Wp_bipush (v := (nI (48))) dX3_readFlag_26 (by decide) ?_
    refine Wp_iconst (v := (nI (0))) dX3_readFlag_28 (by decide) ?_
    refine Wp_bipush (v := (nI (7))) dX3_readFlag_29 (by decide) ?_
    refine Wp_callVi (c_X3_take hR hX hta t2 hp2 a2 (z := 48) (lo := 0) (hi := 7) (by omega) (by omega)) YV_X3_take ml_X3_54 hR rfl dX3_readFlag_31 (by omega) (by decide) (by omega) (by omega) rfl rfl (Nat.le_of_ble_eq_true rfl) (fun r3 V3 hr3 => ?_)
    rcases hr3 with ⟨y3, z3, rfl, t3, a3, fr3⟩ | ⟨y3, rfl, rfl⟩
    · have hp3 := tkE_le hp2 (show tkT tt n (tkE tt n (tkE tt n p)) ≠ 300 by omega)
      refine Wp_istore_n (lv' := [(2, .int (nI ((tkT tt n (tkE tt n (tkE tt n p)) - 48)))), (1, .int (nI ((tkT tt n (tkE tt n p) - 97)))), (0, .ref (ad (rd)))]) dX3_readFlag_34 rfl (by decide) rfl ?_
      refine Wp_iload_n dX3_readFlag_35 rfl 0 rfl ?_
      refine Wp_bipush (v := ((-9))) dX3_readFlag_36 (by decide) ?_
      refine Wp_icmp_ne (tgt := 43) dX3_readFlag_38 (by decide) (nI_toInt (by omega)) ((by decide : ((-9) : Int32).toInt = (-9))) (fun c_38 => ?_) (fun c_38 => absurd c_38 (by omega))
      refine Wp_aload_n dX3_readFlag_43 rfl 2 rfl ?_
      refine Wp_bipush (v := (nI (48))) dX3_readFlag_44 (by decide) ?_
      refine Wp_iconst (v := (nI (1))) dX3_readFlag_46 (by decide) ?_
      refine Wp_bipush (v := (nI (9))) dX3_readFlag_47 (by decide) ?_
      refine Wp_callVi (c_X3_take hR hX hta t3 hp3 a3 (z := 48) (lo := 1) (hi := 9) (by omega) (by omega)) YV_X3_take ml_X3_54 hR rfl dX3_readFlag_49 (by omega) (by decide) (by omega) (by omega) rfl rfl (Nat.le_of_ble_eq_true rfl) (fun r4 V4 hr4 => ?_)
      rcases hr4 with ⟨y4, z4, rfl, t4, a4, fr4⟩ | ⟨y4, rfl, rfl⟩
      · have hp4 := tkE_le hp3 (show tkT tt n (tkE tt n (tkE tt n (tkE tt n p))) ≠ 300 by omega)
        refine Wp_istore_n (lv' := [(3, .int (nI ((tkT tt n (tkE tt n (tkE tt n (tkE tt n p))) - 48)))), (2, .int (nI ((tkT tt n (tkE tt n (tkE tt n p)) - 48)))), (1, .int (nI ((tkT tt n (tkE tt n p) - 97)))), (0, .ref (ad (rd)))]) dX3_readFlag_52 rfl (by decide) rfl ?_
        refine Wp_iload_n dX3_readFlag_53 rfl 0 rfl ?_
        refine Wp_bipush (v := ((-9))) dX3_readFlag_54 (by decide) ?_
        refine Wp_icmp_ne (tgt := 61) dX3_readFlag_56 (by decide) (nI_toInt (by omega)) ((by decide : ((-9) : Int32).toInt = (-9))) (fun c_56 => ?_) (fun c_56 => absurd c_56 (by omega))
        refine Wp_aload_n dX3_readFlag_61 rfl 3 rfl ?_
        refine Wp_getr fk_X3_18 hR rfl dX3_readFlag_62 ?_
        refine Wp_getr fk_X3_64 hB rfl dX3_readFlag_65 ?_
        refine Wp_iload_n dX3_readFlag_68 rfl 2 rfl ?_
        refine Wp_iload_n dX3_readFlag_69 rfl 1 rfl ?_
        refine Wp_ist (n := (tkT tt n (tkE tt n p) - 97)) hc rfl (by omega) (by decide) dX3_readFlag_70 ?_
        refine Wp_aload_n dX3_readFlag_71 rfl 3 rfl ?_
        refine Wp_getr fk_X3_18 hR rfl dX3_readFlag_72 ?_
        refine Wp_getr fk_X3_68 hB rfl dX3_readFlag_75 ?_
        refine Wp_iload_n dX3_readFlag_78 rfl 2 rfl ?_
        refine Wp_iload_n dX3_readFlag_79 rfl 0 rfl ?_
        refine Wp_ist (n := (tkT tt n (tkE tt n p) - 97)) hz rfl (by omega) (by decide) dX3_readFlag_80 ?_
        refine Wp_iconst (v := (nI (1))) dX3_readFlag_81 (by decide) ?_
        exact Wp_zret (b := true) rfl rfl ⟨rfl, rfl, _, rfl, by
    have e : pFl tt n p y = (true, tkE tt n (tkE tt n (tkE tt n (tkE tt n p))), (va_up y.1 (tkT tt n (tkE tt n p) - 97) (tkT tt n (tkE tt n (tkE tt n p)) - 48), va_up y.2.1 (tkT tt n (tkE tt n p) - 97) (tkT tt n (tkE tt n (tkE tt n (tkE tt n p))) - 48), y.2.2)) := by unfold pFl; rw [if_pos (by omega), if_pos (by omega), if_pos (by omega)]
    have d4 := ((d1.step n1 n2 n3 n4 n5 fr2).step n1 n2 n3 n4 n5 fr3).step n1 n2 n3 n4 n5 fr4
    rw [e]
    refine ⟨rfl, t4.of (by simp [up2, Ne.symm n3, Ne.symm n4]; exact t4.1) (by simp [up2, w3, w4]), a4.of (by simp [up2, Ne.symm n3, Ne.symm n4]), fun _ => ⟨?_, ?_, ?_, ?_, ?_⟩, fun j q1 q2 q3 q4 q5 q6 => ?_⟩
    · intro f hf
      have g9 := d4.1 f hf
      rw [up2_i hcz]
      by_cases q : f = tkT tt n (tkE tt n p) - 97
      · subst q; rw [up2_s, up2_s]
        refine ⟨?_, ?_, ?_, ?_⟩
        · simp [va_up]
        · simp [va_up]
        · simp [va_up]; omega
        · simp [va_up]; omega
      · rw [up2_k q, up2_k q, up2_i (Ne.symm hcz)]; simp only [va_up, if_neg q]; exact g9
    · refine ⟨by simp [up2, Ne.symm m5, Ne.symm m6]; exact d4.2.1.1, d4.2.1.2.1, fun s hs => ?_⟩
      rw [up2_i m9, up2_i m8]; exact d4.2.1.2.2 s hs
    · simp [up2, Ne.symm m5, Ne.symm m6]; exact d4.2.2.1
    · rw [up2_i (Ne.symm m3), up2_i (Ne.symm m2)]; exact d4.2.2.2.1
    · exact d4.2.2.2.2
    · rw [← hV1.2.2 j q1, ← fr2 j q1, ← fr3 j q1, ← fr4 j q1]; simp [up2, q4, q5]⟩ (Nat.le_refl _) (Nat.le_refl _) dX3_readFlag_82
      · refine Wp_istore_n (lv' := [(3, .int ((-9))), (2, .int (nI ((tkT tt n (tkE tt n (tkE tt n p)) - 48)))), (1, .int (nI ((tkT tt n (tkE tt n p) - 97)))), (0, .ref (ad (rd)))]) dX3_readFlag_52 rfl (by decide) rfl ?_
        refine Wp_iload_n dX3_readFlag_53 rfl 0 rfl ?_
        refine Wp_bipush (v := ((-9))) dX3_readFlag_54 (by decide) ?_
        refine Wp_icmp_ne (tgt := 61) dX3_readFlag_56 (by decide) ((by decide : ((-9) : Int32).toInt = (-9))) ((by decide : ((-9) : Int32).toInt = (-9))) (fun c_56 => absurd c_56 (by omega)) (fun c_56 => ?_)
        refine Wp_iconst (v := (nI (0))) dX3_readFlag_59 (by decide) ?_
        exact Wp_zret (b := false) rfl rfl ⟨rfl, rfl, _, rfl, by
    have e : pFl tt n p y = (false, tkE tt n (tkE tt n (tkE tt n p)), y) := by unfold pFl; rw [if_pos (by omega), if_pos (by omega), if_neg (by omega)]
    rw [e]; exact ⟨rfl, t3, a3, fun w => (by cases w), fun j q1 q2 q3 q4 q5 q6 => by rw [fr3 j q1, fr2 j q1, hV1.2.2 j q1]⟩⟩ (Nat.le_refl _) (Nat.le_refl _) dX3_readFlag_60
    · refine Wp_istore_n (lv' := [(2, .int ((-9))), (1, .int (nI ((tkT tt n (tkE tt n p) - 97)))), (0, .ref (ad (rd)))]) dX3_readFlag_34 rfl (by decide) rfl ?_
      refine Wp_iload_n dX3_readFlag_35 rfl 0 rfl ?_
      refine Wp_bipush (v := ((-9))) dX3_readFlag_36 (by decide) ?_
      refine Wp_icmp_ne (tgt := 43) dX3_readFlag_38 (by decide) ((by decide : ((-9) : Int32).toInt = (-9))) ((by decide : ((-9) : Int32).toInt = (-9))) (fun c_38 => absurd c_38 (by omega)) (fun c_38 => ?_)
      refine Wp_iconst (v := (nI (0))) dX3_readFlag_41 (by decide) ?_
      exact Wp_zret (b := false) rfl rfl ⟨rfl, rfl, _, rfl, by
    have e : pFl tt n p y = (false, tkE tt n (tkE tt n p), y) := by unfold pFl; rw [if_pos (by omega), if_neg (by omega)]
    rw [e]; exact ⟨rfl, t2, a2, fun w => (by cases w), fun j q1 q2 q3 q4 q5 q6 => by rw [fr2 j q1, hV1.2.2 j q1]⟩⟩ (Nat.le_refl _) (Nat.le_refl _) dX3_readFlag_42
  · refine Wp_istore_n (lv' := [(1, .int ((-9))), (0, .ref (ad (rd)))]) dX3_readFlag_16 rfl (by decide) rfl ?_
    refine Wp_iload_n dX3_readFlag_17 rfl 0 rfl ?_
    refine Wp_bipush (v := ((-9))) dX3_readFlag_18 (by decide) ?_
    refine Wp_icmp_ne (tgt := 25) dX3_readFlag_20 (by decide) ((by decide : ((-9) : Int32).toInt = (-9))) ((by decide : ((-9) : Int32).toInt = (-9))) (fun c_20 => absurd c_20 (by omega)) (fun c_20 => ?_)
    refine Wp_iconst (v := (nI (0))) dX3_readFlag_23 (by decide) ?_
    exact Wp_zret (b := false) rfl rfl ⟨rfl, rfl, _, rfl, by
    have e : pFl tt n p y = (false, tkE tt n p, y) := by unfold pFl; rw [if_neg (by omega)]
    rw [e]; exact ⟨rfl, t1, a1, fun w => (by cases w), fun j q1 q2 q3 q4 q5 q6 => by rw [hV1.2.2 j q1]⟩⟩ (Nat.le_refl _) (Nat.le_refl _) dX3_readFlag_24
def pcd (i : Nat) (g : Nat → Nat) : Nat := pkd (fun j => if j < i then g j + 1 else 0)
theorem pcd_s {i f : Nat} {g : Nat → Nat} (hi : i < 4) : pcd (i + 1) (va_up g i f) = pcd i g + (f + 1) * 2 ^ (4 * (3 - i)) := by
  rcases (show i = 0 ∨ i = 1 ∨ i = 2 ∨ i = 3 by omega) with rfl | rfl | rfl | rfl <;> simp [pcd, pkd, va_up]
theorem pcd_or {i f : Nat} {g : Nat → Nat} (hi : i < 4) (hf : f < 8) : pcd i g ||| (f + 1) * 2 ^ (4 * (3 - i)) = pcd i g + (f + 1) * 2 ^ (4 * (3 - i)) := by
  have key : ∀ (k a b : Nat), b < 2 ^ k → 2 ^ k * a ||| b = 2 ^ k * a + b := fun k a b h => (Nat.two_pow_add_eq_or_of_lt h a).symm
  rcases (show i = 0 ∨ i = 1 ∨ i = 2 ∨ i = 3 by omega) with rfl | rfl | rfl | rfl
  · simp [pcd, pkd]
  · have := key 12 (g 0 + 1) ((f + 1) * 2 ^ 8) (by omega)
    simp [pcd, pkd] at this ⊢
    rw [Nat.mul_comm]; exact this
  · have := key 8 ((g 0 + 1) * 16 + (g 1 + 1)) ((f + 1) * 2 ^ 4) (by omega)
    simp [pcd, pkd] at this ⊢
    rw [show (g 0 + 1) * 4096 + (g 1 + 1) * 256 = 256 * ((g 0 + 1) * 16 + (g 1 + 1)) by omega]; exact this
  · have := key 4 ((g 0 + 1) * 256 + (g 1 + 1) * 16 + (g 2 + 1)) (f + 1) (by omega)
    simp [pcd, pkd] at this ⊢
    rw [show (g 0 + 1) * 4096 + (g 1 + 1) * 256 + (g 2 + 1) * 16 = 16 * ((g 0 + 1) * 256 + (g 1 + 1) * 16 + (g 2 + 1)) by omega]; exact this
theorem pcd_lt {i : Nat} {g : Nat → Nat} (hg : ∀ j, j < i → g j < 8) : pcd i g < 65536 := by
  apply pkd_lt
  intro j
  split
  · have := hg j (by assumption); omega
  · omega
theorem pkd_inj {d e : Nat → Nat} (hd : ∀ i, d i ≤ 8) (he : ∀ i, e i ≤ 8) (h : pkd d = pkd e) {i : Nat} (hi : i < 4) : d i = e i := by
  rw [← pkd_dig hd hi, ← pkd_dig he hi, h]
theorem sme_pk {V : wV} {h k : Nat} {y : aP} (b : BK V h k y.2.2.1 y.2.2.2.1 y.2.2.2.2.1) {L : Nat} {g : Nat → Nat} (hL : L ≤ 4) (hg : ∀ j, j < L → g j < 8) : decide (∃ s, s < y.2.2.1 ∧ pkd (dg y.2.2.2.1 y.2.2.2.2.1 s) = pcd L g) = sme y L g := by
  unfold sme
  apply decide_eq_decide.mpr
  have hgd : ∀ i, (fun j => if j < L then g j + 1 else 0) i ≤ 8 := by
    intro i; simp only; split
    · have := hg i (by assumption); omega
    · omega
  constructor
  · rintro ⟨s, hs, e⟩
    have hdd := fun i => BK_dg b hs i
    have key := fun i (hi : i < 4) => pkd_inj hdd hgd e hi
    have h1 := (b.2.2 s hs).2
    have hl : y.2.2.2.1 s = L := by
      rcases Nat.lt_trichotomy (y.2.2.2.1 s) L with q | q | q
      · have := key (y.2.2.2.1 s) (by omega)
        simp only [dg, Nat.lt_irrefl, if_false, if_pos q] at this; omega
      · exact q
      · have := key L (by omega)
        simp only [dg, Nat.lt_irrefl, if_false, if_pos q] at this; omega
    refine ⟨s, hs, hl, fun i hi => ?_⟩
    have := key i (by omega)
    simp only [dg, hl, if_pos hi] at this; omega
  · rintro ⟨s, hs, e1, e2⟩
    refine ⟨s, hs, ?_⟩
    unfold pcd
    congr 1
    funext j
    simp only [dg, e1]
    by_cases q : j < L
    · rw [if_pos q, if_pos q, e2 j q]
    · rw [if_neg q, if_neg q]
theorem tl_X3_readCode {E : wE} {S : List wK} {ad : Nat → Nat} {V : wV} {rd x ta db dc dz dk : Nat} (hR : S[rd]? = some (.inl (3, [some (some db), some (some x), none]))) (hX : S[x]? = some (.inl (7, [some (some ta), none, none, none, none]))) (hta : S[ta]? = some (.inr (.inl (false, 120)))) (hB : S[db]? = some (.inl (0, [some (some dc), some (some dz), some (some dk), none, none]))) (hc : S[dc]? = some (.inr (.inl (false, 8)))) (hz : S[dz]? = some (.inr (.inl (false, 8)))) (hk : S[dk]? = some (.inr (.inl (false, 10)))) {n : Nat} {tt : Nat → Nat} (t0 : TX V x ta n tt) {p : Nat} (hp : p ≤ n) (at0 : AT V x n tt p) {y : aP} (dr : DR V rd db dc dz dk y) (hcz : dc ≠ dz) (ht3 : tkT tt n p ≠ 300)  {L q : Nat} {g : Nat → Nat} {V1 : wV} (hn : ¬ 10 ≤ y.2.2.1) (hcd : (cdf tt n 4 0 (tkE tt n p) (fun _ => 0)) = (L, q, g)) (hq : q ≤ n) (hL : L ≤ 4) (hg : ∀ j, j < L → g j < 8) (t1 : TX V1 x ta n tt) (a1 : AT V1 x n tt q) (fr : ∀ j, j ≠ x → V1 j = V j) {i : Nat} : Wp E mX3_readCode (w_R 3 0 0) (w_i S ad (fun r V' => r = bI (pCd tt n p y).1 ∧ TX V' x ta n tt ∧ AT V' x n tt (pCd tt n p y).2.1 ∧ ((pCd tt n p y).1 = true → DR V' rd db dc dz dk (pCd tt n p y).2.2) ∧ ∀ j, j ≠ x → j ≠ rd → j ≠ db → j ≠ dc → j ≠ dz → j ≠ dk → V' j = V j)) 0 0 0 0 73 [(1, .int (nI L)), (2, .int (nI (pcd L g))), (0, .ref (ad rd))] [] S ad V1 := by
  have hxa : ta ≠ x := w_ne hta hX (by simp)
  have n1 : rd ≠ x := w_ne hR hX (by simp)
  have n2 : db ≠ x := w_ne hB hX (by simp)
  have n3 : dc ≠ x := w_ne hc hX (by simp)
  have n4 : dz ≠ x := w_ne hz hX (by simp)
  have n5 : dk ≠ x := w_ne hk hX (by simp)
  have m1 : rd ≠ db := w_ne hR hB (by simp)
  have m2 : dc ≠ rd := w_ne hc hR (by simp)
  have m3 : dz ≠ rd := w_ne hz hR (by simp)
  have m4 : dk ≠ rd := w_ne hk hR (by simp)
  have m5 : dc ≠ db := w_ne hc hB (by simp)
  have m6 : dz ≠ db := w_ne hz hB (by simp)
  have m7 : dk ≠ db := w_ne hk hB (by simp)
  have m8 : dk ≠ dc := w_ne hk hc (by simp)
  have m9 : dk ≠ dz := w_ne hk hz (by simp)
  have w1 : ta ≠ rd := w_ne hta hR (by simp)
  have w2 : ta ≠ db := w_ne hta hB (by simp)
  have w3 : ta ≠ dc := w_ne hta hc (by simp)
  have w4 : ta ≠ dz := w_ne hta hz (by simp)
  have w5 : ta ≠ dk := w_ne hta hk (by simp)
  have d1 : DR V1 rd db dc dz dk y := dr.step n1 n2 n3 n4 n5 fr
  have hpc := pcd_lt hg
  refine Wp_iload_n dX3_readCode_73 rfl 0 rfl ?_
  refine Wp_if_eq (tgt := 88) dX3_readCode_74 (by decide) (nI_toInt (by omega)) (fun c_74 => ?_) (fun c_74 => ?_)
  · refine Wp_iconst (v := (nI (0))) dX3_readCode_88 (by decide) ?_
    exact Wp_zret (b := false) rfl rfl ⟨rfl, rfl, _, rfl, by
    have e : pCd tt n p y = (false, q, y) := by unfold pCd; rw [if_neg hn, hcd]; simp only; rw [if_pos (by first | exact Or.inl (by omega) | exact Or.inr hsm)]
    rw [e]; exact ⟨rfl, t1, a1, fun w => (by cases w), fun j q1 q2 q3 q4 q5 q6 => fr j q1⟩⟩ (Nat.le_refl _) (Nat.le_refl _) dX3_readCode_89
  · refine Wp_aload_n dX3_readCode_77 rfl 2 rfl ?_
    refine Wp_getr fk_X3_18 hR rfl dX3_readCode_78 ?_
    refine Wp_iload_n dX3_readCode_81 rfl 1 rfl ?_
    refine Wp_callVg (c_X0_hasCode hB hk d1.2.1 hpc) YV_X0_hasCode ml_X3_78 hB rfl dX3_readCode_82 (by omega) (by decide) (by omega) (by omega) rfl rfl (Nat.le_of_ble_eq_true rfl) ?_
    refine Wp_ifeq_b (tgt := 90) dX3_readCode_85 (by decide) (fun c_85 => ?_) (fun c_85 => ?_)
    · have hsm := c_85
      rw [sme_pk d1.2.1 hL hg] at hsm
      refine Wp_aload_n dX3_readCode_90 rfl 2 rfl ?_
      refine Wp_getr fk_X3_18 hR rfl dX3_readCode_91 ?_
      refine Wp_iload_n dX3_readCode_94 rfl 1 rfl ?_
      refine Wp_callVv (c_X0_add hB hk d1.2.1.1 (by have := d1.2.1.2.1; omega) (by omega) _) YV_X0_add ml_X3_82 hB rfl dX3_readCode_95 (by omega) (by decide) (by omega) (by omega) rfl rfl (Nat.le_of_ble_eq_true rfl) (fun V2 hV2 => ?_)
      refine Wp_iconst (v := (nI (1))) dX3_readCode_98 (by decide) ?_
      exact Wp_zret (b := true) rfl rfl ⟨rfl, rfl, _, rfl, by
    have e : pCd tt n p y = (true, q, adc y L g) := by unfold pCd; rw [if_neg hn, hcd]; simp only; rw [if_neg (by rintro (w | w) <;> first | omega | (rw [hsm] at w; cases w))]
    rw [e]
    subst hV2
    refine ⟨rfl, t1.of (by simp [up2, Ne.symm n2, Ne.symm n5]; exact t1.1) (by simp [up2, w2, w5]), a1.of (by simp [up2, Ne.symm n2, Ne.symm n5]), fun _ => ⟨?_, ⟨?_, ?_, fun s hs => ?_⟩, ?_, ?_, ?_⟩, fun j q1 q2 q3 q4 q5 q6 => ?_⟩
    · intro f hf; rw [up2_i m5, up2_i (Ne.symm m8), up2_i m6, up2_i (Ne.symm m9)]; exact d1.1 f hf
    · rw [up2_s]; rfl
    · show y.2.2.1 + 1 ≤ 10; omega
    · have hs : s < y.2.2.1 + 1 := hs
      rw [up2_i m7]
      by_cases z : s = y.2.2.1
      · subst z
        rw [up2_s]
        refine ⟨?_, ?_, ?_, fun i hi => ?_⟩
        · have e9 : pcd L g = pkd (dg (adc y L g).2.2.2.1 (adc y L g).2.2.2.2.1 y.2.2.1) := by
            unfold pcd; congr 1; funext j; simp [dg, adc, va_up]
          rw [e9]
        · simp [adc, va_up]; omega
        · simp [adc, va_up]; omega
        · simp [adc, va_up] at hi ⊢; exact hg i hi
      · rw [up2_k z]
        have b9 := d1.2.1.2.2 s (by omega)
        have e9 : dg (adc y L g).2.2.2.1 (adc y L g).2.2.2.2.1 s = dg y.2.2.2.1 y.2.2.2.2.1 s := by funext j; simp [dg, adc, va_up, z]
        rw [e9]
        simp only [adc, va_up, if_neg z]
        exact b9
    · simp [up2, upd, Ne.symm m7]; exact d1.2.2.1
    · rw [up2_i m1, up2_i (Ne.symm m4)]; exact d1.2.2.2.1
    · exact d1.2.2.2.2
    · rw [← fr j q1]; simp [up2, q3, q6]⟩ (Nat.le_refl _) (Nat.le_refl _) dX3_readCode_99
    · have hsm := c_85
      rw [sme_pk d1.2.1 hL hg] at hsm
      refine Wp_iconst (v := (nI (0))) dX3_readCode_88 (by decide) ?_
      exact Wp_zret (b := false) rfl rfl ⟨rfl, rfl, _, rfl, by
    have e : pCd tt n p y = (false, q, y) := by unfold pCd; rw [if_neg hn, hcd]; simp only; rw [if_pos (by first | exact Or.inl (by omega) | exact Or.inr hsm)]
    rw [e]; exact ⟨rfl, t1, a1, fun w => (by cases w), fun j q1 q2 q3 q4 q5 q6 => fr j q1⟩⟩ (Nat.le_refl _) (Nat.le_refl _) dX3_readCode_89
theorem lp_X3_readCode {E : wE} {S : List wK} {ad : Nat → Nat} {V : wV} {rd x ta db dc dz dk : Nat} (hR : S[rd]? = some (.inl (3, [some (some db), some (some x), none]))) (hX : S[x]? = some (.inl (7, [some (some ta), none, none, none, none]))) (hta : S[ta]? = some (.inr (.inl (false, 120)))) (hB : S[db]? = some (.inl (0, [some (some dc), some (some dz), some (some dk), none, none]))) (hc : S[dc]? = some (.inr (.inl (false, 8)))) (hz : S[dz]? = some (.inr (.inl (false, 8)))) (hk : S[dk]? = some (.inr (.inl (false, 10)))) {n : Nat} {tt : Nat → Nat} (t0 : TX V x ta n tt) {p : Nat} (hp : p ≤ n) (at0 : AT V x n tt p) {y : aP} (dr : DR V rd db dc dz dk y) (hcz : dc ≠ dz) (ht3 : tkT tt n p ≠ 300) (hn : ¬ 10 ≤ y.2.2.1)  : ∀ (m : Nat) (i : Nat) (q : Nat) (g : Nat → Nat) (V1 : wV), i ≤ 4 → 4 < i + m → (cdf tt n 4 0 (tkE tt n p) (fun _ => 0)) = cdf tt n (4 - i) i q g → q ≤ n → (∀ j, j < i → g j < 8) → TX V1 x ta n tt → AT V1 x n tt q → (∀ j, j ≠ x → V1 j = V j) → Wp E mX3_readCode (w_R 3 0 0) (w_i S ad (fun r V' => r = bI (pCd tt n p y).1 ∧ TX V' x ta n tt ∧ AT V' x n tt (pCd tt n p y).2.1 ∧ ((pCd tt n p y).1 = true → DR V' rd db dc dz dk (pCd tt n p y).2.2) ∧ ∀ j, j ≠ x → j ≠ rd → j ≠ db → j ≠ dc → j ≠ dz → j ≠ dk → V' j = V j)) 0 0 0 0 27 [(3, .int (nI (i))), (1, .int (nI (i))), (2, .int (nI (pcd i g))), (0, .ref (ad (rd)))] [] S ad V1 := by
  have hxa : ta ≠ x := w_ne hta hX (by simp)
  intro m
  induction m with
  | zero => intro i q g V1 hi hm hcd hq hg t1 a1 fr; omega
  | succ m ih =>
    intro i q g V1 hi hm hcd hq hg t1 a1 fr
    refine Wp_iload_n dX3_readCode_27 rfl 0 rfl ?_
    refine Wp_iconst (v := (nI (4))) dX3_readCode_28 (by decide) ?_
    refine Wp_icmp_ge (tgt := 73) dX3_readCode_29 (by decide) (nI_toInt (by omega)) (nI_toInt (by omega)) (fun c_29 => ?_) (fun c_29 => ?_)
    · have hcd2 : (cdf tt n 4 0 (tkE tt n p) (fun _ => 0)) = (4, q, g) := by rw [hcd, show i = 4 by omega]; rfl
      refine Wp_lv (lv2 := [(1, .int (nI (i))), (2, .int (nI (pcd i g))), (0, .ref (ad (rd)))]) [1, 2, 3] rfl ?_
      have e4 : i = 4 := by omega
      subst e4
      exact tl_X3_readCode hR hX hta hB hc hz hk t0 hp at0 dr hcz ht3 hn hcd2 hq (by omega) hg t1 a1 fr (i := 0)
    · have hcs : cdf tt n (4 - i) i q g = (if 97 ≤ tkT tt n q ∧ tkT tt n q ≤ 104 then cdf tt n (4 - (i + 1)) (i + 1) (tkE tt n q) (va_up g i (tkT tt n q - 97)) else (i, q, g)) := by
        rw [show 4 - i = (4 - (i + 1)) + 1 by omega]; rfl
      refine Wp_iload_n dX3_readCode_32 rfl 1 rfl ?_
      refine Wp_iload_n dX3_readCode_33 rfl 0 rfl ?_
      refine Wp_icmp_ne (tgt := 73) dX3_readCode_34 (by decide) (nI_toInt (by omega)) (nI_toInt (by omega)) (fun c_34 => absurd c_34 (by omega)) (fun c_34 => ?_)
      refine Wp_aload_n dX3_readCode_37 rfl 3 rfl ?_
      refine Wp_bipush (v := (nI (97))) dX3_readCode_38 (by decide) ?_
      refine Wp_iconst (v := (nI (0))) dX3_readCode_40 (by decide) ?_
      refine Wp_bipush (v := (nI (7))) dX3_readCode_41 (by decide) ?_
      refine Wp_callVi (c_X3_take hR hX hta t1 hq a1 (z := 97) (lo := 0) (hi := 7) (by omega) (by omega)) YV_X3_take ml_X3_54 hR rfl dX3_readCode_43 (by omega) (by decide) (by omega) (by omega) rfl rfl (Nat.le_of_ble_eq_true rfl) (fun r2 V2 hr2 => ?_)
      rcases hr2 with ⟨k1, k2, rfl, t2, a2, fr2⟩ | ⟨k1, rfl, e2⟩
      · have hq2 := tkE_le hq (show tkT tt n q ≠ 300 by omega)
        refine Wp_istore (lv' := [(4, .int (nI ((tkT tt n q - 97)))), (3, .int (nI (i))), (1, .int (nI (i))), (2, .int (nI (pcd i g))), (0, .ref (ad (rd)))]) dX3_readCode_46 (by decide) rfl ?_
        refine Wp_iload dX3_readCode_48 0 rfl ?_
        refine Wp_bipush (v := ((-9))) dX3_readCode_50 (by decide) ?_
        refine Wp_icmp_eq (tgt := 67) dX3_readCode_52 (by decide) (nI_toInt (by omega)) ((by decide : ((-9) : Int32).toInt = (-9))) (fun c_52 => absurd c_52 (by omega)) (fun c_52 => ?_)
        refine Wp_iload_n dX3_readCode_55 rfl 3 rfl ?_
        refine Wp_iload dX3_readCode_56 0 rfl ?_
        refine Wp_iload_n dX3_readCode_58 rfl 1 rfl ?_
        refine Wp_callSg (c_X0_packed (f := tkT tt n q - 97) (i := i) (by omega) (by omega)) YS_X0_packed ml_X3_74 dX3_readCode_59 (by omega) (by decide) (by omega) (by omega) rfl rfl (Nat.le_of_ble_eq_true rfl) ?_
        refine Wp_ior (z := (nI (pcd (i + 1) (va_up g i (tkT tt n q - 97))))) dX3_readCode_62 (by rw [nI_or, pcd_or (by omega) (by omega), pcd_s (by omega)]) ?_
        refine Wp_istore_n (lv' := [(2, .int (nI (pcd (i + 1) (va_up g i (tkT tt n q - 97))))), (4, .int (nI ((tkT tt n q - 97)))), (3, .int (nI (i))), (1, .int (nI (i))), (0, .ref (ad (rd)))]) dX3_readCode_63 rfl (by decide) rfl ?_
        refine Wp_iinc (x := (nI ((i + 1)))) (lv' := [(1, .int (nI ((i + 1)))), (2, .int (nI (pcd (i + 1) (va_up g i (tkT tt n q - 97))))), (4, .int (nI ((tkT tt n q - 97)))), (3, .int (nI (i))), (0, .ref (ad (rd)))]) dX3_readCode_64 3 rfl (w_inc1 _) (by decide) rfl ?_
        refine Wp_iinc (x := (nI ((i + 1)))) (lv' := [(3, .int (nI ((i + 1)))), (1, .int (nI ((i + 1)))), (2, .int (nI (pcd (i + 1) (va_up g i (tkT tt n q - 97))))), (4, .int (nI ((tkT tt n q - 97)))), (0, .ref (ad (rd)))]) dX3_readCode_67 3 rfl (w_inc1 _) (by decide) rfl ?_
        refine Wp_goto (tgt := 27) dX3_readCode_70 (by decide) ?_
        refine Wp_lv (lv2 := [(3, .int (nI (i + 1))), (1, .int (nI (i + 1))), (2, .int (nI (pcd (i + 1) (va_up g i (tkT tt n q - 97))))), (0, .ref (ad rd))]) [0, 1, 2, 4] rfl ?_
        exact ih (i + 1) (tkE tt n q) _ V2 (by omega) (by omega) (by rw [hcd, hcs, if_pos (by omega)]) hq2 (fun j hj => by
          unfold va_up
          split
          · omega
          · exact hg j (by omega)) t2 a2 (fun j hj => by rw [fr2 j hj, fr j hj])
      · rw [e2]
        have hcd2 : (cdf tt n 4 0 (tkE tt n p) (fun _ => 0)) = (i, q, g) := by rw [hcd, hcs, if_neg (by omega)]
        refine Wp_istore (lv' := [(4, .int ((-9))), (3, .int (nI (i))), (1, .int (nI (i))), (2, .int (nI (pcd i g))), (0, .ref (ad (rd)))]) dX3_readCode_46 (by decide) rfl ?_
        refine Wp_iload dX3_readCode_48 0 rfl ?_
        refine Wp_bipush (v := ((-9))) dX3_readCode_50 (by decide) ?_
        refine Wp_icmp_eq (tgt := 67) dX3_readCode_52 (by decide) ((by decide : ((-9) : Int32).toInt = (-9))) ((by decide : ((-9) : Int32).toInt = (-9))) (fun c_52 => ?_) (fun c_52 => absurd c_52 (by omega))
        refine Wp_iinc (x := (nI ((i + 1)))) (lv' := [(3, .int (nI ((i + 1)))), (4, .int ((-9))), (1, .int (nI (i))), (2, .int (nI (pcd i g))), (0, .ref (ad (rd)))]) dX3_readCode_67 1 rfl (w_inc1 _) (by decide) rfl ?_
        refine Wp_goto (tgt := 27) dX3_readCode_70 (by decide) ?_
        refine Wp_iload_n (x := nI (i + 1)) dX3_readCode_27 rfl 0 rfl ?_
        refine Wp_iconst (v := nI 4) dX3_readCode_28 (by decide) ?_
        have w73 : Wp E mX3_readCode (w_R 3 0 0) (w_i S ad (fun r V' => r = bI (pCd tt n p y).1 ∧ TX V' x ta n tt ∧ AT V' x n tt (pCd tt n p y).2.1 ∧ ((pCd tt n p y).1 = true → DR V' rd db dc dz dk (pCd tt n p y).2.2) ∧ ∀ j, j ≠ x → j ≠ rd → j ≠ db → j ≠ dc → j ≠ dz → j ≠ dk → V' j = V j)) 0 0 0 0 73 [(3, .int (nI ((i + 1)))), (4, .int ((-9))), (1, .int (nI (i))), (2, .int (nI (pcd i g))), (0, .ref (ad (rd)))] [] S ad V1 := by
          refine Wp_lv (lv2 := [(1, .int (nI i)), (2, .int (nI (pcd i g))), (0, .ref (ad rd))]) [2, 3, 4] rfl ?_
          exact tl_X3_readCode hR hX hta hB hc hz hk t0 hp at0 dr hcz ht3 hn hcd2 hq (by omega) hg t1 a1 fr (i := 0)
        refine Wp_icmp_ge (tgt := 73) dX3_readCode_29 (by decide) (nI_toInt (by omega)) (nI_toInt (by omega)) (fun _ => w73) (fun _ => ?_)
        refine Wp_iload_n (x := nI i) dX3_readCode_32 rfl 2 rfl ?_
        refine Wp_iload_n (x := nI (i + 1)) dX3_readCode_33 rfl 0 rfl ?_
        exact Wp_icmp_ne (tgt := 73) dX3_readCode_34 (by decide) (nI_toInt (by omega)) (nI_toInt (by omega)) (fun _ => w73) (fun w => absurd w (by omega))
theorem c_X3_readCode {E : wE} {S : List wK} {ad : Nat → Nat} {V : wV} {rd x ta db dc dz dk : Nat} (hR : S[rd]? = some (.inl (3, [some (some db), some (some x), none]))) (hX : S[x]? = some (.inl (7, [some (some ta), none, none, none, none]))) (hta : S[ta]? = some (.inr (.inl (false, 120)))) (hB : S[db]? = some (.inl (0, [some (some dc), some (some dz), some (some dk), none, none]))) (hc : S[dc]? = some (.inr (.inl (false, 8)))) (hz : S[dz]? = some (.inr (.inl (false, 8)))) (hk : S[dk]? = some (.inr (.inl (false, 10)))) {n : Nat} {tt : Nat → Nat} (t0 : TX V x ta n tt) {p : Nat} (hp : p ≤ n) (at0 : AT V x n tt p) {y : aP} (dr : DR V rd db dc dz dk y) (hcz : dc ≠ dz) (ht3 : tkT tt n p ≠ 300)  : w_C E mX3_readCode (w_R 3 0 0) 0 0 [.ref (ad (rd))] S ad V (w_i S ad (fun r V' => r = bI (pCd tt n p y).1 ∧ TX V' x ta n tt ∧ AT V' x n tt (pCd tt n p y).2.1 ∧ ((pCd tt n p y).1 = true → DR V' rd db dc dz dk (pCd tt n p y).2.2) ∧ ∀ j, j ≠ x → j ≠ rd → j ≠ db → j ≠ dc → j ≠ dz → j ≠ dk → V' j = V j)) := by
  refine w_C.of (by decide) (Nat.le_of_ble_eq_true rfl) ?_
  show Wp _ _ _ _ _ _ _ _ _ [(0, .ref (ad (rd)))] [] S ad V
  have hxa : ta ≠ x := w_ne hta hX (by simp)
  have n1 : rd ≠ x := w_ne hR hX (by simp)
  have n2 : db ≠ x := w_ne hB hX (by simp)
  have n3 : dc ≠ x := w_ne hc hX (by simp)
  have n4 : dz ≠ x := w_ne hz hX (by simp)
  have n5 : dk ≠ x := w_ne hk hX (by simp)
  have m1 : rd ≠ db := w_ne hR hB (by simp)
  have m2 : dc ≠ rd := w_ne hc hR (by simp)
  have m3 : dz ≠ rd := w_ne hz hR (by simp)
  have m4 : dk ≠ rd := w_ne hk hR (by simp)
  have m5 : dc ≠ db := w_ne hc hB (by simp)
  have m6 : dz ≠ db := w_ne hz hB (by simp)
  have m7 : dk ≠ db := w_ne hk hB (by simp)
  have m8 : dk ≠ dc := w_ne hk hc (by simp)
  have m9 : dk ≠ dz := w_ne hk hz (by simp)
  have w1 : ta ≠ rd := w_ne hta hR (by simp)
  have w2 : ta ≠ db := w_ne hta hB (by simp)
  have w3 : ta ≠ dc := w_ne hta hc (by simp)
  have w4 : ta ≠ dz := w_ne hta hz (by simp)
  have w5 : ta ≠ dk := w_ne hta hk (by simp)
  refine Wp_aload_n dX3_readCode_0 rfl 0 rfl ?_
  refine Wp_getr fk_X3_18 hR rfl dX3_readCode_1 ?_
  refine Wp_get (x := (nI (y.2.2.1))) fk_X3_71 hB rfl dr.2.1.1 dX3_readCode_4 ?_
  refine Wp_bipush (v := (nI (10))) dX3_readCode_7 (by decide) ?_
  refine Wp_icmp_lt (tgt := 14) dX3_readCode_9 (by decide) (nI_toInt (by have := dr.2.1.2.1; omega)) (nI_toInt (by omega)) (fun c_9 => ?_) (fun c_9 => ?_)
  · refine Wp_aload_n dX3_readCode_14 rfl 0 rfl ?_
    refine Wp_getr fk_X3_9 hR rfl dX3_readCode_15 ?_
    refine Wp_callVv (c_X7_step hX hta t0 (tkE_le hp ht3) (at0.2.2 ht3)) YV_X7_step ml_X3_58 hX rfl dX3_readCode_18 (by omega) (by decide) (by omega) (by omega) rfl rfl (Nat.le_of_ble_eq_true rfl) (fun V1 hV1 => ?_)
    have hp1 := tkE_le hp ht3
    have t1 : TX V1 x ta n tt := t0.of hV1.2.1 (hV1.2.2 ta hxa)
    have a1 := hV1.1
    have d1 : DR V1 rd db dc dz dk y := dr.step n1 n2 n3 n4 n5 hV1.2.2
    refine Wp_iconst (v := (nI (0))) dX3_readCode_21 (by decide) ?_
    refine Wp_istore_n (lv' := [(1, .int (nI (0))), (0, .ref (ad (rd)))]) dX3_readCode_22 rfl (by decide) rfl ?_
    refine Wp_iconst (v := (nI (0))) dX3_readCode_23 (by decide) ?_
    refine Wp_istore_n (lv' := [(2, .int (nI (0))), (1, .int (nI (0))), (0, .ref (ad (rd)))]) dX3_readCode_24 rfl (by decide) rfl ?_
    refine Wp_iconst (v := (nI (0))) dX3_readCode_25 (by decide) ?_
    refine Wp_istore_n (lv' := [(3, .int (nI (0))), (2, .int (nI (0))), (1, .int (nI (0))), (0, .ref (ad (rd)))]) dX3_readCode_26 rfl (by decide) rfl ?_
    refine Wp_lv (lv2 := [(3, .int (nI (0))), (1, .int (nI (0))), (2, .int (nI (0))), (0, .ref (ad (rd)))]) [0, 2, 1, 3] rfl ?_
    exact lp_X3_readCode hR hX hta hB hc hz hk t0 hp at0 dr hcz ht3 (by omega) 5 0 (tkE tt n p) (fun _ => 0) V1 (by omega) (by omega) rfl hp1 (fun j hj => by omega) t1 a1 hV1.2.2
  · have h10 := dr.2.1.2.1
    refine Wp_iconst (v := (nI (0))) dX3_readCode_12 (by decide) ?_
    exact Wp_zret (b := false) rfl rfl ⟨rfl, rfl, _, rfl, by
    have e : pCd tt n p y = (false, p, y) := by unfold pCd; rw [if_pos (by omega)]
    rw [e]; exact ⟨rfl, t0, at0, fun w => (by cases w), fun _ _ _ _ _ _ _ => rfl⟩⟩ (Nat.le_refl _) (Nat.le_refl _) dX3_readCode_13
end
section
/-! READING: an item, all -/
theorem ctk_eq {t k : Nat} (h : t ≤ 301) (hk : k < 256) : (ctk t).toInt = k ↔ t = k := by
  rw [ctk_toInt h]
  constructor
  · intro q; split at q
    · omega
    · split at q <;> omega
  · intro q; rw [if_neg (by omega), if_neg (by omega)]; omega
theorem ctk_300 {t : Nat} (h : t ≤ 301) : (ctk t).toInt = -1 ↔ t = 300 := by
  rw [ctk_toInt h]
  constructor
  · intro q; split at q
    · assumption
    · split at q <;> omega
  · intro q; rw [if_pos q]
theorem pIt0_le {tt : Nat → Nat} {n p : Nat} {x : aP} (hp : p ≤ n) (ht : tkT tt n p ≠ 300) (h : (pIt0 tt n p x).1 = true) : (pIt0 tt n p x).2.1 ≤ n := by
  have e1 := tkE_gt hp ht
  revert h
  unfold pIt0
  split
  · unfold pPl
    split
    · simp
    · split
      · intro _; have := tkE_gt e1.2.1 (show tkT tt n (tkE tt n p) ≠ 300 by omega); simp only; omega
      · simp
  · split
    · unfold pFl
      split
      · have e2 := tkE_gt e1.2.1 (show tkT tt n (tkE tt n p) ≠ 300 by omega)
        split
        · have e3 := tkE_gt e2.2.1 (show tkT tt n (tkE tt n (tkE tt n p)) ≠ 300 by omega)
          split
          · intro _; have := tkE_gt e3.2.1 (show tkT tt n (tkE tt n (tkE tt n (tkE tt n p))) ≠ 300 by omega); simp only; omega
          · simp
        · simp
      · simp
    · split
      · unfold pCd
        split
        · simp
        · have q := cdf_le (tt := tt) (n := n) 4 0 (tkE tt n p) (fun _ => 0) e1.2.1
          split
          · simp
          · intro _; simp only; omega
      · simp
theorem tl_X3_readItem_pPl {E : wE} {S : List wK} {ad : Nat → Nat} {V : wV} {rd x ta db dc dz dk : Nat} (hR : S[rd]? = some (.inl (3, [some (some db), some (some x), none]))) (hX : S[x]? = some (.inl (7, [some (some ta), none, none, none, none]))) (hta : S[ta]? = some (.inr (.inl (false, 120)))) (hB : S[db]? = some (.inl (0, [some (some dc), some (some dz), some (some dk), none, none]))) (hc : S[dc]? = some (.inr (.inl (false, 8)))) (hz : S[dz]? = some (.inr (.inl (false, 8)))) (hk : S[dk]? = some (.inr (.inl (false, 10)))) {n : Nat} {tt : Nat → Nat} (t0 : TX V x ta n tt) {p : Nat} (hp : p ≤ n) (at0 : AT V x n tt p) {y : aP} (dr : DR V rd db dc dz dk y) (hcz : dc ≠ dz) (ht3 : tkT tt n p ≠ 300) (hT : tkT tt n p = 112) (e0 : pIt0 tt n p y = pPl tt n p y) {V1 : wV} (t1 : TX V1 x ta n tt) (a1 : AT V1 x n tt (pPl tt n p y).2.1) (d1 : (pPl tt n p y).1 = true → DR V1 rd db dc dz dk (pPl tt n p y).2.2) (fr1 : ∀ j, j ≠ x → j ≠ rd → j ≠ db → j ≠ dc → j ≠ dz → j ≠ dk → V1 j = V j) : Wp E mX3_readItem (w_R 4 0 0) (w_i S ad (fun r V' => r = bI (pIt tt n p y).1 ∧ TX V' x ta n tt ∧ AT V' x n tt (pIt tt n p y).2.1 ∧ ((pIt tt n p y).1 = true → DR V' rd db dc dz dk (pIt tt n p y).2.2) ∧ ∀ j, j ≠ x → j ≠ rd → j ≠ db → j ≠ dc → j ≠ dz → j ≠ dk → V' j = V j)) 0 0 0 0 66 [(1, .int (bI (pPl tt n p y).1)), (0, .ref (ad rd))] [] S ad V1 := by
  have hxa : ta ≠ x := w_ne hta hX (by simp)
  have n1 : rd ≠ x := w_ne hR hX (by simp)
  have n2 : db ≠ x := w_ne hB hX (by simp)
  have n3 : dc ≠ x := w_ne hc hX (by simp)
  have n4 : dz ≠ x := w_ne hz hX (by simp)
  have n5 : dk ≠ x := w_ne hk hX (by simp)
  have m1 : rd ≠ db := w_ne hR hB (by simp)
  have m2 : dc ≠ rd := w_ne hc hR (by simp)
  have m3 : dz ≠ rd := w_ne hz hR (by simp)
  have m4 : dk ≠ rd := w_ne hk hR (by simp)
  have m5 : dc ≠ db := w_ne hc hB (by simp)
  have m6 : dz ≠ db := w_ne hz hB (by simp)
  have m7 : dk ≠ db := w_ne hk hB (by simp)
  have m8 : dk ≠ dc := w_ne hk hc (by simp)
  have m9 : dk ≠ dz := w_ne hk hz (by simp)
  have w1 : ta ≠ rd := w_ne hta hR (by simp)
  have w2 : ta ≠ db := w_ne hta hB (by simp)
  have w3 : ta ≠ dc := w_ne hta hc (by simp)
  have w4 : ta ≠ dz := w_ne hta hz (by simp)
  have w5 : ta ≠ dk := w_ne hta hk (by simp)
  refine Wp_iload_n dX3_readItem_66 rfl 0 rfl ?_
  refine Wp_ifeq_b (tgt := 87) dX3_readItem_67 (by decide) (fun c_67 => ?_) (fun c_67 => ?_)
  · refine Wp_iconst (v := (nI (0))) dX3_readItem_87 (by decide) ?_
    exact Wp_zret (b := false) rfl rfl ⟨rfl, rfl, _, rfl, by
        first
          | (have e : pIt tt n p y = pPl tt n p y := by
               unfold pIt; rw [e0, if_neg (by rw [c_67]; decide)]
             rw [e, c_67]
             exact ⟨rfl, t1, a1, fun w => (by cases w), fr1⟩)
          | (have e : pIt tt n p y = (false, (pPl tt n p y).2.1, (pPl tt n p y).2.2) := by
               unfold pIt; rw [e0, if_pos c_67]; unfold pEnd; rw [if_neg (by omega)]
             rw [e]
             exact ⟨rfl, t1, a1, fun w => (by cases w), fr1⟩)⟩ (Nat.le_refl _) (Nat.le_refl _) dX3_readItem_88
  · have hp1 := pIt0_le hp ht3 (show (pIt0 tt n p y).1 = true by rw [e0]; exact c_67)
    rw [e0] at hp1
    refine Wp_aload_n dX3_readItem_70 rfl 1 rfl ?_
    refine Wp_bipush (v := (nI (59))) dX3_readItem_71 (by decide) ?_
    refine Wp_iconst (v := (nI (0))) dX3_readItem_73 (by decide) ?_
    refine Wp_iconst (v := (nI (0))) dX3_readItem_74 (by decide) ?_
    refine Wp_callVi (c_X3_take hR hX hta t1 hp1 a1 (z := 59) (lo := 0) (hi := 0) (by omega) (by omega)) YV_X3_take ml_X3_54 hR rfl dX3_readItem_75 (by omega) (by decide) (by omega) (by omega) rfl rfl (Nat.le_of_ble_eq_true rfl) (fun r2 V2 hr2 => ?_)
    rcases hr2 with ⟨k1, k2, rfl, t2, a2, fr2⟩ | ⟨k1, rfl, e2⟩
    · refine Wp_bipush (v := ((-9))) dX3_readItem_78 (by decide) ?_
      refine Wp_icmp_eq (tgt := 87) dX3_readItem_80 (by decide) (nI_toInt (by omega)) ((by decide : ((-9) : Int32).toInt = (-9))) (fun c_80 => absurd c_80 (by omega)) (fun c_80 => ?_)
      refine Wp_iconst (v := (nI (1))) dX3_readItem_83 (by decide) ?_
      refine Wp_goto (tgt := 88) dX3_readItem_84 (by decide) ?_
      exact Wp_zret (b := true) rfl rfl ⟨rfl, rfl, _, rfl, by
        have e : pIt tt n p y = (true, tkE tt n (pPl tt n p y).2.1, (pPl tt n p y).2.2) := by
          unfold pIt; rw [e0, if_pos c_67]; unfold pEnd; rw [if_pos (by omega)]
        rw [e]
        exact ⟨rfl, t2, a2, fun _ => (d1 c_67).step n1 n2 n3 n4 n5 fr2, fun j q1 q2 q3 q4 q5 q6 => by rw [fr2 j q1]; exact fr1 j q1 q2 q3 q4 q5 q6⟩⟩ (Nat.le_refl _) (Nat.le_refl _) dX3_readItem_88
    · rw [e2]
      refine Wp_bipush (v := ((-9))) dX3_readItem_78 (by decide) ?_
      refine Wp_icmp_eq (tgt := 87) dX3_readItem_80 (by decide) ((by decide : ((-9) : Int32).toInt = (-9))) ((by decide : ((-9) : Int32).toInt = (-9))) (fun c_80 => ?_) (fun c_80 => absurd c_80 (by omega))
      refine Wp_iconst (v := (nI (0))) dX3_readItem_87 (by decide) ?_
      exact Wp_zret (b := false) rfl rfl ⟨rfl, rfl, _, rfl, by
        first
          | (have e : pIt tt n p y = pPl tt n p y := by
               unfold pIt; rw [e0, if_neg (by rw [c_67]; decide)]
             rw [e, c_67]
             exact ⟨rfl, t1, a1, fun w => (by cases w), fr1⟩)
          | (have e : pIt tt n p y = (false, (pPl tt n p y).2.1, (pPl tt n p y).2.2) := by
               unfold pIt; rw [e0, if_pos c_67]; unfold pEnd; rw [if_neg (by omega)]
             rw [e]
             exact ⟨rfl, t1, a1, fun w => (by cases w), fr1⟩)⟩ (Nat.le_refl _) (Nat.le_refl _) dX3_readItem_88
theorem tl_X3_readItem_pFl {E : wE} {S : List wK} {ad : Nat → Nat} {V : wV} {rd x ta db dc dz dk : Nat} (hR : S[rd]? = some (.inl (3, [some (some db), some (some x), none]))) (hX : S[x]? = some (.inl (7, [some (some ta), none, none, none, none]))) (hta : S[ta]? = some (.inr (.inl (false, 120)))) (hB : S[db]? = some (.inl (0, [some (some dc), some (some dz), some (some dk), none, none]))) (hc : S[dc]? = some (.inr (.inl (false, 8)))) (hz : S[dz]? = some (.inr (.inl (false, 8)))) (hk : S[dk]? = some (.inr (.inl (false, 10)))) {n : Nat} {tt : Nat → Nat} (t0 : TX V x ta n tt) {p : Nat} (hp : p ≤ n) (at0 : AT V x n tt p) {y : aP} (dr : DR V rd db dc dz dk y) (hcz : dc ≠ dz) (ht3 : tkT tt n p ≠ 300) (hT : tkT tt n p = 102) (e0 : pIt0 tt n p y = pFl tt n p y) {V1 : wV} (t1 : TX V1 x ta n tt) (a1 : AT V1 x n tt (pFl tt n p y).2.1) (d1 : (pFl tt n p y).1 = true → DR V1 rd db dc dz dk (pFl tt n p y).2.2) (fr1 : ∀ j, j ≠ x → j ≠ rd → j ≠ db → j ≠ dc → j ≠ dz → j ≠ dk → V1 j = V j) : Wp E mX3_readItem (w_R 4 0 0) (w_i S ad (fun r V' => r = bI (pIt tt n p y).1 ∧ TX V' x ta n tt ∧ AT V' x n tt (pIt tt n p y).2.1 ∧ ((pIt tt n p y).1 = true → DR V' rd db dc dz dk (pIt tt n p y).2.2) ∧ ∀ j, j ≠ x → j ≠ rd → j ≠ db → j ≠ dc → j ≠ dz → j ≠ dk → V' j = V j)) 0 0 0 0 66 [(1, .int (bI (pFl tt n p y).1)), (0, .ref (ad rd))] [] S ad V1 := by
  have hxa : ta ≠ x := w_ne hta hX (by simp)
  have n1 : rd ≠ x := w_ne hR hX (by simp)
  have n2 : db ≠ x := w_ne hB hX (by simp)
  have n3 : dc ≠ x := w_ne hc hX (by simp)
  have n4 : dz ≠ x := w_ne hz hX (by simp)
  have n5 : dk ≠ x := w_ne hk hX (by simp)
  have m1 : rd ≠ db := w_ne hR hB (by simp)
  have m2 : dc ≠ rd := w_ne hc hR (by simp)
  have m3 : dz ≠ rd := w_ne hz hR (by simp)
  have m4 : dk ≠ rd := w_ne hk hR (by simp)
  have m5 : dc ≠ db := w_ne hc hB (by simp)
  have m6 : dz ≠ db := w_ne hz hB (by simp)
  have m7 : dk ≠ db := w_ne hk hB (by simp)
  have m8 : dk ≠ dc := w_ne hk hc (by simp)
  have m9 : dk ≠ dz := w_ne hk hz (by simp)
  have w1 : ta ≠ rd := w_ne hta hR (by simp)
  have w2 : ta ≠ db := w_ne hta hB (by simp)
  have w3 : ta ≠ dc := w_ne hta hc (by simp)
  have w4 : ta ≠ dz := w_ne hta hz (by simp)
  have w5 : ta ≠ dk := w_ne hta hk (by simp)
  refine Wp_iload_n dX3_readItem_66 rfl 0 rfl ?_
  refine Wp_ifeq_b (tgt := 87) dX3_readItem_67 (by decide) (fun c_67 => ?_) (fun c_67 => ?_)
  · refine Wp_iconst (v := (nI (0))) dX3_readItem_87 (by decide) ?_
    exact Wp_zret (b := false) rfl rfl ⟨rfl, rfl, _, rfl, by
        first
          | (have e : pIt tt n p y = pFl tt n p y := by
               unfold pIt; rw [e0, if_neg (by rw [c_67]; decide)]
             rw [e, c_67]
             exact ⟨rfl, t1, a1, fun w => (by cases w), fr1⟩)
          | (have e : pIt tt n p y = (false, (pFl tt n p y).2.1, (pFl tt n p y).2.2) := by
               unfold pIt; rw [e0, if_pos c_67]; unfold pEnd; rw [if_neg (by omega)]
             rw [e]
             exact ⟨rfl, t1, a1, fun w => (by cases w), fr1⟩)⟩ (Nat.le_refl _) (Nat.le_refl _) dX3_readItem_88
  · have hp1 := pIt0_le hp ht3 (show (pIt0 tt n p y).1 = true by rw [e0]; exact c_67)
    rw [e0] at hp1
    refine Wp_aload_n dX3_readItem_70 rfl 1 rfl ?_
    refine Wp_bipush (v := (nI (59))) dX3_readItem_71 (by decide) ?_
    refine Wp_iconst (v := (nI (0))) dX3_readItem_73 (by decide) ?_
    refine Wp_iconst (v := (nI (0))) dX3_readItem_74 (by decide) ?_
    refine Wp_callVi (c_X3_take hR hX hta t1 hp1 a1 (z := 59) (lo := 0) (hi := 0) (by omega) (by omega)) YV_X3_take ml_X3_54 hR rfl dX3_readItem_75 (by omega) (by decide) (by omega) (by omega) rfl rfl (Nat.le_of_ble_eq_true rfl) (fun r2 V2 hr2 => ?_)
    rcases hr2 with ⟨k1, k2, rfl, t2, a2, fr2⟩ | ⟨k1, rfl, e2⟩
    · refine Wp_bipush (v := ((-9))) dX3_readItem_78 (by decide) ?_
      refine Wp_icmp_eq (tgt := 87) dX3_readItem_80 (by decide) (nI_toInt (by omega)) ((by decide : ((-9) : Int32).toInt = (-9))) (fun c_80 => absurd c_80 (by omega)) (fun c_80 => ?_)
      refine Wp_iconst (v := (nI (1))) dX3_readItem_83 (by decide) ?_
      refine Wp_goto (tgt := 88) dX3_readItem_84 (by decide) ?_
      exact Wp_zret (b := true) rfl rfl ⟨rfl, rfl, _, rfl, by
        have e : pIt tt n p y = (true, tkE tt n (pFl tt n p y).2.1, (pFl tt n p y).2.2) := by
          unfold pIt; rw [e0, if_pos c_67]; unfold pEnd; rw [if_pos (by omega)]
        rw [e]
        exact ⟨rfl, t2, a2, fun _ => (d1 c_67).step n1 n2 n3 n4 n5 fr2, fun j q1 q2 q3 q4 q5 q6 => by rw [fr2 j q1]; exact fr1 j q1 q2 q3 q4 q5 q6⟩⟩ (Nat.le_refl _) (Nat.le_refl _) dX3_readItem_88
    · rw [e2]
      refine Wp_bipush (v := ((-9))) dX3_readItem_78 (by decide) ?_
      refine Wp_icmp_eq (tgt := 87) dX3_readItem_80 (by decide) ((by decide : ((-9) : Int32).toInt = (-9))) ((by decide : ((-9) : Int32).toInt = (-9))) (fun c_80 => ?_) (fun c_80 => absurd c_80 (by omega))
      refine Wp_iconst (v := (nI (0))) dX3_readItem_87 (by decide) ?_
      exact Wp_zret (b := false) rfl rfl ⟨rfl, rfl, _, rfl, by
        first
          | (have e : pIt tt n p y = pFl tt n p y := by
               unfold pIt; rw [e0, if_neg (by rw [c_67]; decide)]
             rw [e, c_67]
             exact ⟨rfl, t1, a1, fun w => (by cases w), fr1⟩)
          | (have e : pIt tt n p y = (false, (pFl tt n p y).2.1, (pFl tt n p y).2.2) := by
               unfold pIt; rw [e0, if_pos c_67]; unfold pEnd; rw [if_neg (by omega)]
             rw [e]
             exact ⟨rfl, t1, a1, fun w => (by cases w), fr1⟩)⟩ (Nat.le_refl _) (Nat.le_refl _) dX3_readItem_88
theorem tl_X3_readItem_pCd {E : wE} {S : List wK} {ad : Nat → Nat} {V : wV} {rd x ta db dc dz dk : Nat} (hR : S[rd]? = some (.inl (3, [some (some db), some (some x), none]))) (hX : S[x]? = some (.inl (7, [some (some ta), none, none, none, none]))) (hta : S[ta]? = some (.inr (.inl (false, 120)))) (hB : S[db]? = some (.inl (0, [some (some dc), some (some dz), some (some dk), none, none]))) (hc : S[dc]? = some (.inr (.inl (false, 8)))) (hz : S[dz]? = some (.inr (.inl (false, 8)))) (hk : S[dk]? = some (.inr (.inl (false, 10)))) {n : Nat} {tt : Nat → Nat} (t0 : TX V x ta n tt) {p : Nat} (hp : p ≤ n) (at0 : AT V x n tt p) {y : aP} (dr : DR V rd db dc dz dk y) (hcz : dc ≠ dz) (ht3 : tkT tt n p ≠ 300) (hT : tkT tt n p = 107) (e0 : pIt0 tt n p y = pCd tt n p y) {V1 : wV} (t1 : TX V1 x ta n tt) (a1 : AT V1 x n tt (pCd tt n p y).2.1) (d1 : (pCd tt n p y).1 = true → DR V1 rd db dc dz dk (pCd tt n p y).2.2) (fr1 : ∀ j, j ≠ x → j ≠ rd → j ≠ db → j ≠ dc → j ≠ dz → j ≠ dk → V1 j = V j) : Wp E mX3_readItem (w_R 4 0 0) (w_i S ad (fun r V' => r = bI (pIt tt n p y).1 ∧ TX V' x ta n tt ∧ AT V' x n tt (pIt tt n p y).2.1 ∧ ((pIt tt n p y).1 = true → DR V' rd db dc dz dk (pIt tt n p y).2.2) ∧ ∀ j, j ≠ x → j ≠ rd → j ≠ db → j ≠ dc → j ≠ dz → j ≠ dk → V' j = V j)) 0 0 0 0 66 [(1, .int (bI (pCd tt n p y).1)), (0, .ref (ad rd))] [] S ad V1 := by
  have hxa : ta ≠ x := w_ne hta hX (by simp)
  have n1 : rd ≠ x := w_ne hR hX (by simp)
  have n2 : db ≠ x := w_ne hB hX (by simp)
  have n3 : dc ≠ x := w_ne hc hX (by simp)
  have n4 : dz ≠ x := w_ne hz hX (by simp)
  have n5 : dk ≠ x := w_ne hk hX (by simp)
  have m1 : rd ≠ db := w_ne hR hB (by simp)
  have m2 : dc ≠ rd := w_ne hc hR (by simp)
  have m3 : dz ≠ rd := w_ne hz hR (by simp)
  have m4 : dk ≠ rd := w_ne hk hR (by simp)
  have m5 : dc ≠ db := w_ne hc hB (by simp)
  have m6 : dz ≠ db := w_ne hz hB (by simp)
  have m7 : dk ≠ db := w_ne hk hB (by simp)
  have m8 : dk ≠ dc := w_ne hk hc (by simp)
  have m9 : dk ≠ dz := w_ne hk hz (by simp)
  have w1 : ta ≠ rd := w_ne hta hR (by simp)
  have w2 : ta ≠ db := w_ne hta hB (by simp)
  have w3 : ta ≠ dc := w_ne hta hc (by simp)
  have w4 : ta ≠ dz := w_ne hta hz (by simp)
  have w5 : ta ≠ dk := w_ne hta hk (by simp)
  refine Wp_iload_n dX3_readItem_66 rfl 0 rfl ?_
  refine Wp_ifeq_b (tgt := 87) dX3_readItem_67 (by decide) (fun c_67 => ?_) (fun c_67 => ?_)
  · refine Wp_iconst (v := (nI (0))) dX3_readItem_87 (by decide) ?_
    exact Wp_zret (b := false) rfl rfl ⟨rfl, rfl, _, rfl, by
        first
          | (have e : pIt tt n p y = pCd tt n p y := by
               unfold pIt; rw [e0, if_neg (by rw [c_67]; decide)]
             rw [e, c_67]
             exact ⟨rfl, t1, a1, fun w => (by cases w), fr1⟩)
          | (have e : pIt tt n p y = (false, (pCd tt n p y).2.1, (pCd tt n p y).2.2) := by
               unfold pIt; rw [e0, if_pos c_67]; unfold pEnd; rw [if_neg (by omega)]
             rw [e]
             exact ⟨rfl, t1, a1, fun w => (by cases w), fr1⟩)⟩ (Nat.le_refl _) (Nat.le_refl _) dX3_readItem_88
  · have hp1 := pIt0_le hp ht3 (show (pIt0 tt n p y).1 = true by rw [e0]; exact c_67)
    rw [e0] at hp1
    refine Wp_aload_n dX3_readItem_70 rfl 1 rfl ?_
    refine Wp_bipush (v := (nI (59))) dX3_readItem_71 (by decide) ?_
    refine Wp_iconst (v := (nI (0))) dX3_readItem_73 (by decide) ?_
    refine Wp_iconst (v := (nI (0))) dX3_readItem_74 (by decide) ?_
    refine Wp_callVi (c_X3_take hR hX hta t1 hp1 a1 (z := 59) (lo := 0) (hi := 0) (by omega) (by omega)) YV_X3_take ml_X3_54 hR rfl dX3_readItem_75 (by omega) (by decide) (by omega) (by omega) rfl rfl (Nat.le_of_ble_eq_true rfl) (fun r2 V2 hr2 => ?_)
    rcases hr2 with ⟨k1, k2, rfl, t2, a2, fr2⟩ | ⟨k1, rfl, e2⟩
    · refine Wp_bipush (v := ((-9))) dX3_readItem_78 (by decide) ?_
      refine Wp_icmp_eq (tgt := 87) dX3_readItem_80 (by decide) (nI_toInt (by omega)) ((by decide : ((-9) : Int32).toInt = (-9))) (fun c_80 => absurd c_80 (by omega)) (fun c_80 => ?_)
      refine Wp_iconst (v := (nI (1))) dX3_readItem_83 (by decide) ?_
      refine Wp_goto (tgt := 88) dX3_readItem_84 (by decide) ?_
      exact Wp_zret (b := true) rfl rfl ⟨rfl, rfl, _, rfl, by
        have e : pIt tt n p y = (true, tkE tt n (pCd tt n p y).2.1, (pCd tt n p y).2.2) := by
          unfold pIt; rw [e0, if_pos c_67]; unfold pEnd; rw [if_pos (by omega)]
        rw [e]
        exact ⟨rfl, t2, a2, fun _ => (d1 c_67).step n1 n2 n3 n4 n5 fr2, fun j q1 q2 q3 q4 q5 q6 => by rw [fr2 j q1]; exact fr1 j q1 q2 q3 q4 q5 q6⟩⟩ (Nat.le_refl _) (Nat.le_refl _) dX3_readItem_88
    · rw [e2]
      refine Wp_bipush (v := ((-9))) dX3_readItem_78 (by decide) ?_
      refine Wp_icmp_eq (tgt := 87) dX3_readItem_80 (by decide) ((by decide : ((-9) : Int32).toInt = (-9))) ((by decide : ((-9) : Int32).toInt = (-9))) (fun c_80 => ?_) (fun c_80 => absurd c_80 (by omega))
      refine Wp_iconst (v := (nI (0))) dX3_readItem_87 (by decide) ?_
      exact Wp_zret (b := false) rfl rfl ⟨rfl, rfl, _, rfl, by
        first
          | (have e : pIt tt n p y = pCd tt n p y := by
               unfold pIt; rw [e0, if_neg (by rw [c_67]; decide)]
             rw [e, c_67]
             exact ⟨rfl, t1, a1, fun w => (by cases w), fr1⟩)
          | (have e : pIt tt n p y = (false, (pCd tt n p y).2.1, (pCd tt n p y).2.2) := by
               unfold pIt; rw [e0, if_pos c_67]; unfold pEnd; rw [if_neg (by omega)]
             rw [e]
             exact ⟨rfl, t1, a1, fun w => (by cases w), fr1⟩)⟩ (Nat.le_refl _) (Nat.le_refl _) dX3_readItem_88
theorem c_X3_readItem {E : wE} {S : List wK} {ad : Nat → Nat} {V : wV} {rd x ta db dc dz dk : Nat} (hR : S[rd]? = some (.inl (3, [some (some db), some (some x), none]))) (hX : S[x]? = some (.inl (7, [some (some ta), none, none, none, none]))) (hta : S[ta]? = some (.inr (.inl (false, 120)))) (hB : S[db]? = some (.inl (0, [some (some dc), some (some dz), some (some dk), none, none]))) (hc : S[dc]? = some (.inr (.inl (false, 8)))) (hz : S[dz]? = some (.inr (.inl (false, 8)))) (hk : S[dk]? = some (.inr (.inl (false, 10)))) {n : Nat} {tt : Nat → Nat} (t0 : TX V x ta n tt) {p : Nat} (hp : p ≤ n) (at0 : AT V x n tt p) {y : aP} (dr : DR V rd db dc dz dk y) (hcz : dc ≠ dz) (ht3 : tkT tt n p ≠ 300)  : w_C E mX3_readItem (w_R 4 0 0) 0 0 [.ref (ad (rd))] S ad V (w_i S ad (fun r V' => r = bI (pIt tt n p y).1 ∧ TX V' x ta n tt ∧ AT V' x n tt (pIt tt n p y).2.1 ∧ ((pIt tt n p y).1 = true → DR V' rd db dc dz dk (pIt tt n p y).2.2) ∧ ∀ j, j ≠ x → j ≠ rd → j ≠ db → j ≠ dc → j ≠ dz → j ≠ dk → V' j = V j)) := by
  refine w_C.of (by decide) (Nat.le_of_ble_eq_true rfl) ?_
  show Wp _ _ _ _ _ _ _ _ _ [(0, .ref (ad (rd)))] [] S ad V
  have hxa : ta ≠ x := w_ne hta hX (by simp)
  have n1 : rd ≠ x := w_ne hR hX (by simp)
  have n2 : db ≠ x := w_ne hB hX (by simp)
  have n3 : dc ≠ x := w_ne hc hX (by simp)
  have n4 : dz ≠ x := w_ne hz hX (by simp)
  have n5 : dk ≠ x := w_ne hk hX (by simp)
  have m1 : rd ≠ db := w_ne hR hB (by simp)
  have m2 : dc ≠ rd := w_ne hc hR (by simp)
  have m3 : dz ≠ rd := w_ne hz hR (by simp)
  have m4 : dk ≠ rd := w_ne hk hR (by simp)
  have m5 : dc ≠ db := w_ne hc hB (by simp)
  have m6 : dz ≠ db := w_ne hz hB (by simp)
  have m7 : dk ≠ db := w_ne hk hB (by simp)
  have m8 : dk ≠ dc := w_ne hk hc (by simp)
  have m9 : dk ≠ dz := w_ne hk hz (by simp)
  have w1 : ta ≠ rd := w_ne hta hR (by simp)
  have w2 : ta ≠ db := w_ne hta hB (by simp)
  have w3 : ta ≠ dc := w_ne hta hc (by simp)
  have w4 : ta ≠ dz := w_ne hta hz (by simp)
  have w5 : ta ≠ dk := w_ne hta hk (by simp)
  have hTl := tkT_le (p := p) (fun k hk => (t0.2.2 k hk).2)
  refine Wp_aload_n dX3_readItem_0 rfl 0 rfl ?_
  refine Wp_getr fk_X3_9 hR rfl dX3_readItem_1 ?_
  refine Wp_get (x := (ctk (tkT tt n p))) fk_X3_34 hX rfl at0.1 dX3_readItem_4 ?_
  by_cases c_7_0 : ((ctk (tkT tt n p))).toInt = 102
  · refine Wp_lookup (tgt := 48) (off := 41) dX3_readItem_7 (by decide) (a := 102) ((rfl).trans c_7_0) (by decide) (by decide) ?_
    have hT := (ctk_eq hTl.1 (k := 102) (by omega)).mp c_7_0
    refine Wp_aload_n dX3_readItem_48 rfl 0 rfl ?_
    refine Wp_callVi (c_X3_readFlag hR hX hta hB hc hz hk t0 hp at0 dr hcz ht3) YV_X3_readFlag ml_X3_48 hR rfl dX3_readItem_49 (by omega) (by decide) (by omega) (by omega) rfl rfl (Nat.le_of_ble_eq_true rfl) (fun r1 V1 hr1 => ?_)
    obtain ⟨e1, t1, a1, d1, fr1⟩ := hr1
    subst e1
    refine Wp_istore_n (lv' := [(1, .int (bI ((pFl tt n p y).1))), (0, .ref (ad (rd)))]) dX3_readItem_52 rfl (by decide) rfl ?_
    refine Wp_goto (tgt := 66) dX3_readItem_53 (by decide) ?_
    exact tl_X3_readItem_pFl hR hX hta hB hc hz hk t0 hp at0 dr hcz ht3 hT (by unfold pIt0; rw [if_neg (by omega), if_pos hT]) t1 a1 d1 fr1
  by_cases c_7_1 : ((ctk (tkT tt n p))).toInt = 107
  · refine Wp_lookup (tgt := 56) (off := 49) dX3_readItem_7 (by decide) (a := 107) ((rfl).trans c_7_1) (by decide) (by decide) ?_
    have hT := (ctk_eq hTl.1 (k := 107) (by omega)).mp c_7_1
    refine Wp_aload_n dX3_readItem_56 rfl 0 rfl ?_
    refine Wp_callVi (c_X3_readCode hR hX hta hB hc hz hk t0 hp at0 dr hcz ht3) YV_X3_readCode ml_X3_51 hR rfl dX3_readItem_57 (by omega) (by decide) (by omega) (by omega) rfl rfl (Nat.le_of_ble_eq_true rfl) (fun r1 V1 hr1 => ?_)
    obtain ⟨e1, t1, a1, d1, fr1⟩ := hr1
    subst e1
    refine Wp_istore_n (lv' := [(1, .int (bI ((pCd tt n p y).1))), (0, .ref (ad (rd)))]) dX3_readItem_60 rfl (by decide) rfl ?_
    refine Wp_goto (tgt := 66) dX3_readItem_61 (by decide) ?_
    exact tl_X3_readItem_pCd hR hX hta hB hc hz hk t0 hp at0 dr hcz ht3 hT (by unfold pIt0; rw [if_neg (by omega), if_neg (by omega), if_pos hT]) t1 a1 d1 fr1
  by_cases c_7_2 : ((ctk (tkT tt n p))).toInt = 112
  · refine Wp_lookup (tgt := 40) (off := 33) dX3_readItem_7 (by decide) (a := 112) ((rfl).trans c_7_2) (by decide) (by decide) ?_
    have hT := (ctk_eq hTl.1 (k := 112) (by omega)).mp c_7_2
    refine Wp_aload_n dX3_readItem_40 rfl 0 rfl ?_
    refine Wp_callVi (c_X3_readPlaces hR hX hta hB hc hz hk t0 hp at0 dr hcz ht3) YV_X3_readPlaces ml_X3_45 hR rfl dX3_readItem_41 (by omega) (by decide) (by omega) (by omega) rfl rfl (Nat.le_of_ble_eq_true rfl) (fun r1 V1 hr1 => ?_)
    obtain ⟨e1, t1, a1, d1, fr1⟩ := hr1
    subst e1
    refine Wp_istore_n (lv' := [(1, .int (bI ((pPl tt n p y).1))), (0, .ref (ad (rd)))]) dX3_readItem_44 rfl (by decide) rfl ?_
    refine Wp_goto (tgt := 66) dX3_readItem_45 (by decide) ?_
    exact tl_X3_readItem_pPl hR hX hta hB hc hz hk t0 hp at0 dr hcz ht3 hT (by unfold pIt0; rw [if_pos hT]) t1 a1 d1 fr1
  refine Wp_lookup (tgt := 64) (off := 57) dX3_readItem_7 (by decide) (rfl) (by simp [Op.lookupswitch.offset_cons, Op.lookupswitch.offset, Ne.symm c_7_0, Ne.symm c_7_1, Ne.symm c_7_2]) (by decide) ?_
  have z1 : tkT tt n p ≠ 102 := fun q => c_7_0 ((ctk_eq hTl.1 (k := 102) (by omega)).mpr q)
  have z2 : tkT tt n p ≠ 107 := fun q => c_7_1 ((ctk_eq hTl.1 (k := 107) (by omega)).mpr q)
  have z3 : tkT tt n p ≠ 112 := fun q => c_7_2 ((ctk_eq hTl.1 (k := 112) (by omega)).mpr q)
  refine Wp_iconst (v := (nI (0))) dX3_readItem_64 (by decide) ?_
  refine Wp_istore_n (lv' := [(1, .int (nI (0))), (0, .ref (ad (rd)))]) dX3_readItem_65 rfl (by decide) rfl ?_
  refine Wp_iload_n dX3_readItem_66 rfl 0 rfl ?_
  refine Wp_if_eq (tgt := 87) dX3_readItem_67 (by decide) (nI_toInt (by omega)) (fun c_67 => ?_) (fun c_67 => absurd c_67 (by omega))
  refine Wp_iconst (v := (nI (0))) dX3_readItem_87 (by decide) ?_
  exact Wp_zret (b := false) rfl rfl ⟨rfl, rfl, _, rfl, by
    have e : pIt tt n p y = (false, p, y) := by
      have e0 : pIt0 tt n p y = (false, p, y) := by unfold pIt0; rw [if_neg (by omega), if_neg (by omega), if_neg (by omega)]
      unfold pIt; rw [e0]; rfl
    rw [e]; exact ⟨rfl, t0, at0, fun w => (by cases w), fun _ _ _ _ _ _ _ => rfl⟩⟩ (Nat.le_refl _) (Nat.le_refl _) dX3_readItem_88
theorem lp_X3_readAll {E : wE} {S : List wK} {ad : Nat → Nat} {V : wV} {rd x ta db dc dz dk : Nat} (hR : S[rd]? = some (.inl (3, [some (some db), some (some x), none]))) (hX : S[x]? = some (.inl (7, [some (some ta), none, none, none, none]))) (hta : S[ta]? = some (.inr (.inl (false, 120)))) (hB : S[db]? = some (.inl (0, [some (some dc), some (some dz), some (some dk), none, none]))) (hc : S[dc]? = some (.inr (.inl (false, 8)))) (hz : S[dz]? = some (.inr (.inl (false, 8)))) (hk : S[dk]? = some (.inr (.inl (false, 10)))) {n : Nat} {tt : Nat → Nat} (t0 : TX V x ta n tt) (hcz : dc ≠ dz)  : ∀ (m : Nat) (i : Nat) (p : Nat) (y : aP) (V1 : wV), i ≤ p → p ≤ n → n < p + m → (pAll tt n (n + 1) 0 0 x0P) = pAll tt n m i p y → TX V1 x ta n tt → AT V1 x n tt p → DR V1 rd db dc dz dk y → (∀ j, j ≠ x → j ≠ rd → j ≠ db → j ≠ dc → j ≠ dz → j ≠ dk → V1 j = V j) → Wp E mX3_readAll (w_R 5 0 0) (w_i S ad (fun r V' => r = (if (pAll tt n (n + 1) 0 0 x0P).1 = true then nI (pAll tt n (n + 1) 0 0 x0P).2.1 else (-10) - nI (skp tt n (pAll tt n (n + 1) 0 0 x0P).2.2.1)) ∧ TX V' x ta n tt ∧ ((pAll tt n (n + 1) 0 0 x0P).1 = true → DR V' rd db dc dz dk (pAll tt n (n + 1) 0 0 x0P).2.2.2) ∧ ∀ j, j ≠ x → j ≠ rd → j ≠ db → j ≠ dc → j ≠ dz → j ≠ dk → V' j = V j)) 0 0 0 0 21 [(1, .int (nI (i))), (0, .ref (ad (rd)))] [] S ad V1 := by
  have h120 := t0.2.1
  intro m
  induction m with
  | zero => intro i p y V1 hip hpn hm hE t1 a1 d1 fr; omega
  | succ m ih =>
    intro i p y V1 hip hpn hm hE t1 a1 d1 fr
    refine Wp_iload_n dX3_readAll_21 rfl 0 rfl ?_
    refine Wp_bipush (v := (nI (120))) dX3_readAll_22 (by decide) ?_
    refine Wp_icmp_ge (tgt := 62) dX3_readAll_24 (by decide) (nI_toInt (by omega)) (nI_toInt (by omega)) (fun c_24 => ?_) (fun c_24 => ?_)
    · have hT : tkT tt n p = 300 := by
        have := skp_ge (tt := tt) hpn
        unfold tkT; rw [if_pos (by omega)]
      refine Wp_iload_n dX3_readAll_62 rfl 0 rfl ?_
      exact Wp_iret rfl ⟨rfl, rfl, _, rfl, by
      have e : (pAll tt n (n + 1) 0 0 x0P) = (true, i, p, y) := by rw [hE]; simp only [pAll]; rw [if_pos hT]
      rw [e]; exact ⟨rfl, t1, fun _ => d1, fr⟩⟩ (Nat.le_refl _) (Nat.le_refl _) dX3_readAll_63
    · have hTl := tkT_le (p := p) (fun k hk => (t1.2.2 k hk).2)
      refine Wp_aload_n dX3_readAll_27 rfl 1 rfl ?_
      refine Wp_getr fk_X3_9 hR rfl dX3_readAll_28 ?_
      refine Wp_get (x := (ctk (tkT tt n p))) fk_X3_34 hX rfl a1.1 dX3_readAll_31 ?_
      refine Wp_iconst (v := ((-1))) dX3_readAll_34 (by decide) ?_
      refine Wp_icmp_eq (tgt := 62) dX3_readAll_35 (by decide) (rfl) ((by decide : ((-1) : Int32).toInt = (-1))) (fun c_35 => ?_) (fun c_35 => ?_)
      · have hT : tkT tt n p = 300 := (ctk_300 hTl.1).mp c_35
        refine Wp_iload_n dX3_readAll_62 rfl 0 rfl ?_
        exact Wp_iret rfl ⟨rfl, rfl, _, rfl, by
      have e : (pAll tt n (n + 1) 0 0 x0P) = (true, i, p, y) := by rw [hE]; simp only [pAll]; rw [if_pos hT]
      rw [e]; exact ⟨rfl, t1, fun _ => d1, fr⟩⟩ (Nat.le_refl _) (Nat.le_refl _) dX3_readAll_63
      · have ht3 : tkT tt n p ≠ 300 := fun q => c_35 ((ctk_300 hTl.1).mpr q)
        refine Wp_aload_n dX3_readAll_38 rfl 1 rfl ?_
        refine Wp_callVi (c_X3_readItem hR hX hta hB hc hz hk t1 hpn a1 d1 hcz ht3) YV_X3_readItem ml_X3_38 hR rfl dX3_readAll_39 (by omega) (by decide) (by omega) (by omega) rfl rfl (Nat.le_of_ble_eq_true rfl) (fun r2 V2 hr2 => ?_)
        obtain ⟨e2, t2, a2, d2, fr2⟩ := hr2
        subst e2
        refine Wp_ifne_b (tgt := 56) dX3_readAll_42 (by decide) (fun c_42 => ?_) (fun c_42 => ?_)
        · have hle := pIt_le hpn ht3 c_42
          have hE2 : (pAll tt n (n + 1) 0 0 x0P) = pAll tt n m (i + 1) (pIt tt n p y).2.1 (pIt tt n p y).2.2 := by rw [hE]; simp only [pAll]; rw [if_neg ht3, if_pos c_42]
          refine Wp_iinc (x := (nI ((i + 1)))) (lv' := [(1, .int (nI ((i + 1)))), (0, .ref (ad (rd)))]) dX3_readAll_56 0 rfl (w_inc1 _) (by decide) rfl ?_
          refine Wp_goto (tgt := 21) dX3_readAll_59 (by decide) ?_
          exact ih (i + 1) (pIt tt n p y).2.1 (pIt tt n p y).2.2 V2 (by omega) (by omega) (by omega) hE2 t2 a2 (d2 c_42) (fun j q1 q2 q3 q4 q5 q6 => by rw [fr2 j q1 q2 q3 q4 q5 q6, fr j q1 q2 q3 q4 q5 q6])
        · have hE2 : (pAll tt n (n + 1) 0 0 x0P) = (false, i, (pIt tt n p y).2.1, y) := by rw [hE]; simp only [pAll]; rw [if_neg ht3, if_neg (by rw [c_42]; decide)]
          refine Wp_bipush (v := ((-10))) dX3_readAll_45 (by decide) ?_
          refine Wp_aload_n dX3_readAll_47 rfl 1 rfl ?_
          refine Wp_getr fk_X3_9 hR rfl dX3_readAll_48 ?_
          refine Wp_get (x := (nI (skp tt n (pIt tt n p y).2.1))) fk_X3_42 hX rfl a2.2.1 dX3_readAll_51 ?_
          refine Wp_isub (z := ((((-10)) - (nI (skp tt n (pIt tt n p y).2.1))))) dX3_readAll_54 rfl ?_
          exact Wp_iret rfl ⟨rfl, rfl, _, rfl, by
      rw [hE2]; exact ⟨rfl, t2, fun w => (by cases w), fun j q1 q2 q3 q4 q5 q6 => by rw [fr2 j q1 q2 q3 q4 q5 q6, fr j q1 q2 q3 q4 q5 q6]⟩⟩ (Nat.le_refl _) (Nat.le_refl _) dX3_readAll_55
theorem c_X3_readAll {E : wE} {S : List wK} {ad : Nat → Nat} {V : wV} {rd x ta db dc dz dk : Nat} (hR : S[rd]? = some (.inl (3, [some (some db), some (some x), none]))) (hX : S[x]? = some (.inl (7, [some (some ta), none, none, none, none]))) (hta : S[ta]? = some (.inr (.inl (false, 120)))) (hB : S[db]? = some (.inl (0, [some (some dc), some (some dz), some (some dk), none, none]))) (hc : S[dc]? = some (.inr (.inl (false, 8)))) (hz : S[dz]? = some (.inr (.inl (false, 8)))) (hk : S[dk]? = some (.inr (.inl (false, 10)))) {n : Nat} {tt : Nat → Nat} (t0 : TX V x ta n tt) (hcz : dc ≠ dz)  : w_C E mX3_readAll (w_R 5 0 0) 0 0 [.ref (ad (rd))] S ad V (w_i S ad (fun r V' => r = (if (pAll tt n (n + 1) 0 0 x0P).1 = true then nI (pAll tt n (n + 1) 0 0 x0P).2.1 else (-10) - nI (skp tt n (pAll tt n (n + 1) 0 0 x0P).2.2.1)) ∧ TX V' x ta n tt ∧ ((pAll tt n (n + 1) 0 0 x0P).1 = true → DR V' rd db dc dz dk (pAll tt n (n + 1) 0 0 x0P).2.2.2) ∧ ∀ j, j ≠ x → j ≠ rd → j ≠ db → j ≠ dc → j ≠ dz → j ≠ dk → V' j = V j)) := by
  refine w_C.of (by decide) (Nat.le_of_ble_eq_true rfl) ?_
  show Wp _ _ _ _ _ _ _ _ _ [(0, .ref (ad (rd)))] [] S ad V
  have hxa : ta ≠ x := w_ne hta hX (by simp)
  have n1 : rd ≠ x := w_ne hR hX (by simp)
  have n2 : db ≠ x := w_ne hB hX (by simp)
  have n3 : dc ≠ x := w_ne hc hX (by simp)
  have n4 : dz ≠ x := w_ne hz hX (by simp)
  have n5 : dk ≠ x := w_ne hk hX (by simp)
  have m1 : rd ≠ db := w_ne hR hB (by simp)
  have m2 : dc ≠ rd := w_ne hc hR (by simp)
  have m3 : dz ≠ rd := w_ne hz hR (by simp)
  have m4 : dk ≠ rd := w_ne hk hR (by simp)
  have m5 : dc ≠ db := w_ne hc hB (by simp)
  have m6 : dz ≠ db := w_ne hz hB (by simp)
  have m7 : dk ≠ db := w_ne hk hB (by simp)
  have m8 : dk ≠ dc := w_ne hk hc (by simp)
  have m9 : dk ≠ dz := w_ne hk hz (by simp)
  have w1 : ta ≠ rd := w_ne hta hR (by simp)
  have w2 : ta ≠ db := w_ne hta hB (by simp)
  have w3 : ta ≠ dc := w_ne hta hc (by simp)
  have w4 : ta ≠ dz := w_ne hta hz (by simp)
  have w5 : ta ≠ dk := w_ne hta hk (by simp)
  refine Wp_aload_n dX3_readAll_0 rfl 0 rfl ?_
  refine Wp_getr fk_X3_18 hR rfl dX3_readAll_1 ?_
  refine Wp_callVv (c_X0_reset hB hc hz hcz) YV_X0_reset ml_X3_22 hB rfl dX3_readAll_4 (by omega) (by decide) (by omega) (by omega) rfl rfl (Nat.le_of_ble_eq_true rfl) (fun V1 hV1 => ?_)
  obtain ⟨f1, f2, f3, f4⟩ := hV1
  refine Wp_aload_n dX3_readAll_7 rfl 0 rfl ?_
  refine Wp_iconst (v := (nI (0))) dX3_readAll_8 (by decide) ?_
  refine Wp_put fk_X3_25 hR rfl rfl rfl dX3_readAll_9 ?_
  obtain ⟨V9, hV9⟩ : ∃ V9, V9 = (up2 V1 rd 2 (nI (0))) := ⟨_, rfl⟩
  rw [← hV9]
  have t9 : TX V9 x ta n tt := by
    refine t0.of ?_ ?_
    · rw [hV9, up2_i (Ne.symm n1), f4 x (Ne.symm n2) (Ne.symm n3) (Ne.symm n4)]; exact t0.1
    · rw [hV9]; simp only [up2, if_neg w1]; exact f4 ta w2 w3 w4
  have d9 : DR V9 rd db dc dz dk x0P := by
    rw [hV9]
    refine ⟨fun f hf => ?_, ⟨?_, by decide, fun s hs => absurd hs (Nat.not_lt_zero s)⟩, ?_, ?_, by decide⟩
    · rw [up2_i m2, up2_i m3]; exact f1 f hf
    · rw [up2_i (Ne.symm m1)]; exact f2
    · rw [up2_i (Ne.symm m1)]; exact f3
    · rw [up2_s]; rfl
  refine Wp_aload_n dX3_readAll_12 rfl 0 rfl ?_
  refine Wp_getr fk_X3_9 hR rfl dX3_readAll_13 ?_
  refine Wp_callVv (c_X7_rewind hX hta t9) YV_X7_rewind ml_X3_29 hX rfl dX3_readAll_16 (by omega) (by decide) (by omega) (by omega) rfl rfl (Nat.le_of_ble_eq_true rfl) (fun V2 hV2 => ?_)
  obtain ⟨a2, x2, fr2⟩ := hV2
  refine Wp_iconst (v := (nI (0))) dX3_readAll_19 (by decide) ?_
  refine Wp_istore_n (lv' := [(1, .int (nI (0))), (0, .ref (ad (rd)))]) dX3_readAll_20 rfl (by decide) rfl ?_
  exact lp_X3_readAll hR hX hta hB hc hz hk t0 hcz (n + 1) 0 0 x0P V2 (by omega) (by omega) (by omega) rfl (t9.of x2 (fr2 ta hxa)) a2 (d9.step n1 n2 n3 n4 n5 fr2) (fun j q1 q2 q3 q4 q5 q6 => by rw [fr2 j q1, hV9]; simp only [up2, if_neg q2]; exact f4 j q3 q4 q5)
end
section
/-! HISTORY: a ring of ten signals, signal j at cell b + 2 j, its row behind it; hi: what is known, the oldest first -/
def HS (V : wV) (hs b ol hn : Nat) (hi : Nat → aSig) : Prop := V hs 1 = nI ol ∧ V hs 2 = nI hn ∧ ol < 10 ∧ hn ≤ 10 ∧ ∀ j, j < hn → SG V (b + 2 * ((ol + j) % 10)) (b + 2 * ((ol + j) % 10) + 1) (hi j) ∧ (hi j).2.1 ≤ 8
def hpush (hi : Nat → aSig) (hn : Nat) (x : aSig) : Nat → aSig := if hn < 10 then va_up hi hn x else fun j => if j = 9 then x else hi (j + 1)
def RG (S : List wK) (b : Nat) (rf : Nat → Option Nat) : Prop := ∀ j, j < 10 → rf j = some (b + 2 * j) ∧ S[b + 2 * j]? = some (.inl (6, [some (some (b + 2 * j + 1)), none, none, none, none])) ∧ S[b + 2 * j + 1]? = some (.inr (.inl (false, 8)))
theorem HS.of {V V' : wV} {hs b ol hn : Nat} {hi : Nat → aSig} (h : HS V hs b ol hn hi) (h1 : V' hs = V hs) (h2 : ∀ j, b ≤ j → j < b + 20 → V' j = V j) : HS V' hs b ol hn hi := by
  refine ⟨by rw [h1]; exact h.1, by rw [h1]; exact h.2.1, h.2.2.1, h.2.2.2.1, fun j hj => ⟨(h.2.2.2.2 j hj).1.of (h2 _ (by omega) (by omega)) (h2 _ (by omega) (by omega)), (h.2.2.2.2 j hj).2⟩⟩
theorem c_X2_remember {E : wE} {S : List wK} {ad : Nat → Nat} {V : wV} {hs rg u a b : Nat} {rf : Nat → Option Nat} (hH : S[hs]? = some (.inl (2, [some (some rg), none, none]))) (hRg : S[rg]? = some (.inr (.inr (10, rf)))) (hU : S[u]? = some (.inl (6, [some (some a), none, none, none, none]))) (ha : S[a]? = some (.inr (.inl (false, 8)))) (rG : RG S b rf) {ol hn : Nat} {hi : Nat → aSig} (h0 : HS V hs b ol hn hi) {x : aSig} (g : SG V u a x) (hx : x.2.1 ≤ 8) (hub : ¬ (b ≤ u ∧ u < b + 20)) : w_C E mX2_remember (w_R 2 0 0) 0 0 [.ref (ad (hs)), .ref (ad (u))] S ad V (w_v S ad (fun V' => (∃ ol', HS V' hs b ol' (if hn < 10 then hn + 1 else 10) (hpush hi hn x)) ∧ ∀ j, j ≠ hs → ¬ (b ≤ j ∧ j < b + 20) → V' j = V j)) := by
  refine w_C.of (by decide) (Nat.le_of_ble_eq_true rfl) ?_
  show Wp _ _ _ _ _ _ _ _ _ [(0, .ref (ad (hs))), (1, .ref (ad (u)))] [] S ad V
  obtain ⟨J, hJ⟩ : ∃ J, J = (ol + hn) % 10 := ⟨_, rfl⟩
  have hJ10 : J < 10 := by omega
  obtain ⟨sj, hsj⟩ : ∃ sj, sj = b + 2 * J := ⟨_, rfl⟩
  obtain ⟨aj, haj⟩ : ∃ aj, aj = b + 2 * J + 1 := ⟨_, rfl⟩
  have rJ := rG J hJ10
  have hSj : S[sj]? = some (.inl (6, [some (some aj), none, none, none, none])) := by rw [hsj, haj]; exact rJ.2.1
  have hAj : S[aj]? = some (.inr (.inl (false, 8))) := by rw [haj]; exact rJ.2.2
  have rfJ : rf J = some sj := by rw [hsj]; exact rJ.1
  have nhs : ∀ j, b ≤ j → j < b + 20 → j ≠ hs := by
    intro j h1 h2 e
    have q := rG ((j - b) / 2) (by omega)
    rcases Nat.mod_two_eq_zero_or_one (j - b) with z | z
    · have := q.2.1; rw [show b + 2 * ((j - b) / 2) = hs by omega] at this; exact absurd (hH.symm.trans this) (by simp)
    · have := q.2.2; rw [show b + 2 * ((j - b) / 2) + 1 = hs by omega] at this; exact absurd (hH.symm.trans this) (by simp)
  obtain ⟨p1, p2, p3, p4, p5⟩ := h0
  refine Wp_aload_n dX2_remember_0 rfl 0 rfl ?_
  refine Wp_getr fk_X2_11 hH rfl dX2_remember_1 ?_
  refine Wp_aload_n dX2_remember_4 rfl 0 rfl ?_
  refine Wp_get (x := (nI (ol))) fk_X2_18 hH rfl p1 dX2_remember_5 ?_
  refine Wp_aload_n dX2_remember_8 rfl 0 rfl ?_
  refine Wp_get (x := (nI (hn))) fk_X2_22 hH rfl p2 dX2_remember_9 ?_
  refine Wp_iadd (z := (nI ((ol + hn)))) dX2_remember_12 (nI_add _ _) ?_
  refine Wp_bipush (v := (nI (10))) dX2_remember_13 (by decide) ?_
  refine Wp_irem (z := (nI (J))) dX2_remember_15 (nI_ne0 (by omega) (by omega)) (by rw [hJ]; exact pk_rem (by omega) (by omega) (by omega)) ?_
  refine Wp_ald (n := J) hRg rfl hJ10 (by decide) rfJ dX2_remember_16 ?_
  refine Wp_aload_n dX2_remember_17 rfl 1 rfl ?_
  refine Wp_callVv (c_X6_copyFrom hSj hAj hU ha g hx (by omega)) YV_X6_copyFrom ml_X2_25 hSj rfl dX2_remember_18 (by omega) (by decide) (by omega) (by omega) rfl rfl (Nat.le_of_ble_eq_true rfl) (fun V1 hV1 => ?_)
  obtain ⟨s1, fr1⟩ := hV1
  have q0 : V1 hs = V hs := fr1 hs (Ne.symm (nhs sj (by omega) (by omega))) (Ne.symm (nhs aj (by omega) (by omega)))
  have q1 : V1 hs 1 = nI ol := by rw [q0]; exact p1
  have q2 : V1 hs 2 = nI hn := by rw [q0]; exact p2
  have keep : ∀ j, j < hn → (ol + j) % 10 ≠ J → SG V1 (b + 2 * ((ol + j) % 10)) (b + 2 * ((ol + j) % 10) + 1) (hi j) := fun j hj hne => (p5 j hj).1.of (fr1 _ (by omega) (by omega)) (fr1 _ (by omega) (by omega))
  refine Wp_aload_n dX2_remember_21 rfl 0 rfl ?_
  refine Wp_get (x := (nI (hn))) fk_X2_22 hH rfl q2 dX2_remember_22 ?_
  refine Wp_bipush (v := (nI (10))) dX2_remember_25 (by decide) ?_
  refine Wp_icmp_ge (tgt := 43) dX2_remember_27 (by decide) (nI_toInt (by omega)) (nI_toInt (by omega)) (fun c_27 => ?_) (fun c_27 => ?_)
  · refine Wp_aload_n dX2_remember_43 rfl 0 rfl ?_
    refine Wp_aload_n dX2_remember_44 rfl 0 rfl ?_
    refine Wp_get (x := (nI (ol))) fk_X2_18 hH rfl q1 dX2_remember_45 ?_
    refine Wp_iconst (v := (nI (1))) dX2_remember_48 (by decide) ?_
    refine Wp_iadd (z := (nI ((ol + 1)))) dX2_remember_49 (nI_add _ _) ?_
    refine Wp_bipush (v := (nI (10))) dX2_remember_50 (by decide) ?_
    refine Wp_irem (z := (nI (((ol + 1) % 10)))) dX2_remember_52 (nI_ne0 (by omega) (by omega)) (pk_rem (by omega) (by omega) (by omega)) ?_
    refine Wp_put fk_X2_18 hH rfl rfl rfl dX2_remember_53 ?_
    exact Wp_vret rfl ⟨rfl, rfl, rfl, by
      refine ⟨⟨(ol + 1) % 10, ?_⟩, fun j h1 h2 => by simp only [up2, if_neg h1]; exact fr1 j (by omega) (by omega)⟩
      have hlt : hn = 10 := by omega
      rw [if_neg (by omega)]
      refine ⟨by rw [up2_s], by rw [up2_k (by decide), q2, hlt], by omega, by omega, fun j hj => ?_⟩
      have nz : ∀ i, b ≤ i → i < b + 20 → up2 V1 hs 1 (nI ((ol + 1) % 10)) i = V1 i := fun i h1 h2 => by simp only [up2, if_neg (nhs i h1 h2)]
      unfold hpush; rw [if_neg (by omega)]
      by_cases z : j = 9
      · subst z
        simp only [if_true]
        rw [show ((ol + 1) % 10 + 9) % 10 = J by omega, ← haj, ← hsj]
        exact ⟨s1.of (nz _ (by omega) (by omega)) (nz _ (by omega) (by omega)), hx⟩
      · simp only [if_neg z]
        rw [show ((ol + 1) % 10 + j) % 10 = (ol + (j + 1)) % 10 by omega]
        exact ⟨(keep (j + 1) (by omega) (by omega)).of (nz _ (by omega) (by omega)) (nz _ (by omega) (by omega)), (p5 (j + 1) (by omega)).2⟩⟩ (Nat.le_refl _) (Nat.le_refl _) dX2_remember_56
  · refine Wp_aload_n dX2_remember_30 rfl 0 rfl ?_
    refine Wp_dup dX2_remember_31 rfl ?_
    refine Wp_get (x := (nI (hn))) fk_X2_22 hH rfl q2 dX2_remember_32 ?_
    refine Wp_iconst (v := (nI (1))) dX2_remember_35 (by decide) ?_
    refine Wp_iadd (z := (nI ((hn + 1)))) dX2_remember_36 (nI_add _ _) ?_
    refine Wp_put fk_X2_22 hH rfl rfl rfl dX2_remember_37 ?_
    refine Wp_goto (tgt := 56) dX2_remember_40 (by decide) ?_
    exact Wp_vret rfl ⟨rfl, rfl, rfl, by
      refine ⟨⟨ol, ?_⟩, fun j h1 h2 => by simp only [up2, if_neg h1]; exact fr1 j (by omega) (by omega)⟩
      have hlt : hn < 10 := by omega
      rw [if_pos hlt]
      refine ⟨by rw [up2_k (by decide)]; exact q1, by rw [up2_s], p3, by omega, fun j hj => ?_⟩
      have nz : ∀ i, b ≤ i → i < b + 20 → up2 V1 hs 2 (nI (hn + 1)) i = V1 i := fun i h1 h2 => by simp only [up2, if_neg (nhs i h1 h2)]
      unfold hpush; rw [if_pos hlt]
      by_cases z : j = hn
      · subst z
        simp only [va_up, if_true]
        rw [← hJ, ← haj, ← hsj]
        exact ⟨s1.of (nz _ (by omega) (by omega)) (nz _ (by omega) (by omega)), hx⟩
      · simp only [va_up, if_neg z]
        exact ⟨(keep j (by omega) (by omega)).of (nz _ (by omega) (by omega)) (nz _ (by omega) (by omega)), (p5 j (by omega)).2⟩⟩ (Nat.le_refl _) (Nat.le_refl _) dX2_remember_56
theorem c_X2_restore {E : wE} {S : List wK} {ad : Nat → Nat} {V : wV} {hs rg u a b : Nat} {rf : Nat → Option Nat} (hH : S[hs]? = some (.inl (2, [some (some rg), none, none]))) (hRg : S[rg]? = some (.inr (.inr (10, rf)))) (hU : S[u]? = some (.inl (6, [some (some a), none, none, none, none]))) (ha : S[a]? = some (.inr (.inl (false, 8)))) (rG : RG S b rf) {ol hn : Nat} {hi : Nat → aSig} (h0 : HS V hs b ol hn hi) (h1 : 0 < hn) (hub : ¬ (b ≤ u ∧ u < b + 20)) (hab : ¬ (b ≤ a ∧ a < b + 20)) : w_C E mX2_restore (w_R 2 0 0) 0 0 [.ref (ad (hs)), .ref (ad (u))] S ad V (w_v S ad (fun V' => HS V' hs b ol (hn - 1) hi ∧ SG V' u a (hi (hn - 1)) ∧ ∀ j, j ≠ hs → j ≠ u → j ≠ a → V' j = V j)) := by
  refine w_C.of (by decide) (Nat.le_of_ble_eq_true rfl) ?_
  show Wp _ _ _ _ _ _ _ _ _ [(0, .ref (ad (hs))), (1, .ref (ad (u)))] [] S ad V
  obtain ⟨J, hJ⟩ : ∃ J, J = (ol + (hn - 1)) % 10 := ⟨_, rfl⟩
  have hJ10 : J < 10 := by omega
  obtain ⟨sj, hsj⟩ : ∃ sj, sj = b + 2 * J := ⟨_, rfl⟩
  obtain ⟨aj, haj⟩ : ∃ aj, aj = b + 2 * J + 1 := ⟨_, rfl⟩
  have rJ := rG J hJ10
  have hSj : S[sj]? = some (.inl (6, [some (some aj), none, none, none, none])) := by rw [hsj, haj]; exact rJ.2.1
  have hAj : S[aj]? = some (.inr (.inl (false, 8))) := by rw [haj]; exact rJ.2.2
  have rfJ : rf J = some sj := by rw [hsj]; exact rJ.1
  have nhs : ∀ j, b ≤ j → j < b + 20 → j ≠ hs := by
    intro j h1 h2 e
    have q := rG ((j - b) / 2) (by omega)
    rcases Nat.mod_two_eq_zero_or_one (j - b) with z | z
    · have := q.2.1; rw [show b + 2 * ((j - b) / 2) = hs by omega] at this; exact absurd (hH.symm.trans this) (by simp)
    · have := q.2.2; rw [show b + 2 * ((j - b) / 2) + 1 = hs by omega] at this; exact absurd (hH.symm.trans this) (by simp)
  obtain ⟨p1, p2, p3, p4, p5⟩ := h0
  have nu : u ≠ hs := w_ne hU hH (by simp)
  have na : a ≠ hs := w_ne ha hH (by simp)
  have g9 : SG (up2 V hs 2 (nI (hn - 1))) sj aj (hi (hn - 1)) := by
    have q := (p5 (hn - 1) (by omega)).1
    rw [← hJ, ← haj, ← hsj] at q
    exact q.of (by simp only [up2, if_neg (nhs sj (by omega) (by omega))]) (by simp only [up2, if_neg (nhs aj (by omega) (by omega))])
  refine Wp_aload_n dX2_restore_0 rfl 0 rfl ?_
  refine Wp_get (x := (nI (hn))) fk_X2_22 hH rfl p2 dX2_restore_1 ?_
  refine Wp_if_le (tgt := 38) dX2_restore_4 (by decide) (nI_toInt (by omega)) (fun c_4 => absurd c_4 (by omega)) (fun c_4 => ?_)
  refine Wp_aload_n dX2_restore_7 rfl 0 rfl ?_
  refine Wp_dup dX2_restore_8 rfl ?_
  refine Wp_get (x := (nI (hn))) fk_X2_22 hH rfl p2 dX2_restore_9 ?_
  refine Wp_iconst (v := (nI (1))) dX2_restore_12 (by decide) ?_
  refine Wp_isub (z := (nI ((hn - 1)))) dX2_restore_13 (pk_sub (by omega)) ?_
  refine Wp_put fk_X2_22 hH rfl rfl rfl dX2_restore_14 ?_
  refine Wp_aload_n dX2_restore_17 rfl 1 rfl ?_
  refine Wp_aload_n dX2_restore_18 rfl 0 rfl ?_
  refine Wp_getr fk_X2_11 hH rfl dX2_restore_19 ?_
  refine Wp_aload_n dX2_restore_22 rfl 0 rfl ?_
  refine Wp_get (x := (nI (ol))) fk_X2_18 hH rfl ((up2_k (by decide)).trans p1) dX2_restore_23 ?_
  refine Wp_aload_n dX2_restore_26 rfl 0 rfl ?_
  refine Wp_get (x := (nI ((hn - 1)))) fk_X2_22 hH rfl up2_s dX2_restore_27 ?_
  refine Wp_iadd (z := (nI ((ol + (hn - 1))))) dX2_restore_30 (nI_add _ _) ?_
  refine Wp_bipush (v := (nI (10))) dX2_restore_31 (by decide) ?_
  refine Wp_irem (z := (nI (J))) dX2_restore_33 (nI_ne0 (by omega) (by omega)) (by rw [hJ]; exact pk_rem (by omega) (by omega) (by omega)) ?_
  refine Wp_ald (n := J) hRg rfl hJ10 (by decide) rfJ dX2_restore_34 ?_
  refine Wp_callVv (c_X6_copyFrom hU ha hSj hAj g9 (p5 (hn - 1) (by omega)).2 (by omega)) YV_X6_copyFrom ml_X2_25 hU rfl dX2_restore_35 (by omega) (by decide) (by omega) (by omega) rfl rfl (Nat.le_of_ble_eq_true rfl) (fun V1 hV1 => ?_)
  obtain ⟨s1, fr1⟩ := hV1
  exact Wp_vret rfl ⟨rfl, rfl, rfl, by
    refine ⟨⟨?_, ?_, p3, by omega, fun j hj => ⟨?_, (p5 j (by omega)).2⟩⟩, s1, fun j h1 h2 h3 => by rw [fr1 j h2 h3]; simp only [up2, if_neg h1]⟩
    · rw [fr1 hs (Ne.symm nu) (Ne.symm na), up2_k (by decide)]; exact p1
    · rw [fr1 hs (Ne.symm nu) (Ne.symm na), up2_s]
    · have nz : ∀ i, b ≤ i → i < b + 20 → V1 i = V i := fun i h1 h2 => by rw [fr1 i (by omega) (by omega)]; simp only [up2, if_neg (nhs i h1 h2)]
      exact (p5 j (by omega)).1.of (nz _ (by omega) (by omega)) (nz _ (by omega) (by omega))⟩ (Nat.le_refl _) (Nat.le_refl _) dX2_restore_38
end
section
/-! A HOIST as it grows: things, how many; letters, how many; substitutes used; how many of them -/
abbrev aH : Type := (Nat → Nat) × Nat × (Nat → Nat) × Nat × (Nat → Bool) × Nat
def isth (le : Nat → Nat) (lc x : Nat) : Bool := decide (∃ i, i < lc ∧ le i = x)
def fsc (le : Nat → Nat) (lc : Nat) (us : Nat → Bool) (x k : Nat) : Bool := decide (k < lc) && (decide (le k = x) && !us k)
def fsb (le : Nat → Nat) (lc : Nat) (us : Nat → Bool) (x : Nat) : Nat := if fsc le lc us x 0 = true then 1 else if fsc le lc us x 1 = true then 2 else if fsc le lc us x 2 = true then 3 else 0
def hLet (room : Nat) (h : aH) (x : Nat) : Option aH :=
  if isth h.2.2.1 h.2.2.2.1 x = true then
    if fsb h.2.2.1 h.2.2.2.1 h.2.2.2.2.1 x = 0 then none else if room ≤ h.2.1 then none else
      some (va_up h.1 h.2.1 (10 + fsb h.2.2.1 h.2.2.2.1 h.2.2.2.2.1 x), h.2.1 + 1, va_up h.2.2.1 h.2.2.2.1 x, h.2.2.2.1 + 1, va_up h.2.2.2.2.1 (fsb h.2.2.1 h.2.2.2.1 h.2.2.2.2.1 x - 1) true, h.2.2.2.2.2 + 1)
  else if room ≤ h.2.1 then none else some (va_up h.1 h.2.1 x, h.2.1 + 1, va_up h.2.2.1 h.2.2.2.1 x, h.2.2.2.1 + 1, h.2.2.2.2.1, h.2.2.2.2.2)
def hTac (room : Nat) (h : aH) : Option aH := if room ≤ h.2.1 then none else some (va_up h.1 h.2.1 20, h.2.1 + 1, h.2.2)
def hLs (room : Nat) (lt : Nat → Nat) : Nat → Nat → aH → Option aH
  | 0, _, h => some h
  | f + 1, i, h => (hLet room h (lt i)).bind (hLs room lt f (i + 1))
def hCode (room : Nat) (ln : Nat → Nat) (lt : Nat → Nat → Nat) (s : Nat) (h : aH) : Option aH := (if h.2.1 = 0 then some h else hTac room h).bind (hLs room (lt s) (ln s) 0)
def hRw (room : Nat) (ln : Nat → Nat) (lt : Nat → Nat → Nat) (row : Nat → Nat) : Nat → Nat → aH → Option aH
  | 0, _, h => some h
  | f + 1, i, h => (hCode room ln lt (row i) h).bind (hRw room ln lt row f (i + 1))
def h0H : aH := (fun _ => 0, 0, fun _ => 0, 0, fun _ => false, 0)
theorem fsb_le (le : Nat → Nat) (lc : Nat) (us : Nat → Bool) (x : Nat) : fsb le lc us x ≤ 3 := by
  unfold fsb; split
  · omega
  · split
    · omega
    · split <;> omega
def shN (us : Nat → Bool) : Nat := (if us 0 = true then 2 else 0) + (if us 1 = true then 4 else 0) + (if us 2 = true then 8 else 0)
def sbI (f : Nat) : Int32 := if f = 0 then -9 else nI f
/-- the rope holds a hoist -/
def RP (V : wV) (rp rt rl room : Nat) (h : aH) : Prop := V rp 1 = nI h.2.1 ∧ V rp 2 = nI h.2.2.2.2.2 ∧ V rp 4 = nI h.2.2.2.1 ∧ V rp 5 = nI (shN h.2.2.2.2.1) ∧ V rp 6 = nI room ∧ room ≤ 7 ∧ h.2.1 ≤ room ∧ h.2.2.2.1 ≤ h.2.1 ∧ (∀ k, k < h.2.1 → V rt k = nI (h.1 k)) ∧ ∀ k, k < h.2.2.2.1 → V rl k = nI (h.2.2.1 k) ∧ h.2.2.1 k < 8
theorem RP.of {V V' : wV} {rp rt rl room : Nat} {h : aH} (g : RP V rp rt rl room h) (h1 : V' rp = V rp) (h2 : V' rt = V rt) (h3 : V' rl = V rl) : RP V' rp rt rl room h := by
  unfold RP; rw [h1, h2, h3]; exact g
theorem c_X4_begin {E : wE} {S : List wK} {ad : Nat → Nat} {V : wV} {rp rt rl : Nat} (hP : S[rp]? = some (.inl (4, [some (some rt), none, none, some (some rl), none, none, none]))) {pl : Nat} (hpl : pl ≤ 7) : w_C E mX4_begin (w_R 1 0 0) 0 0 [.ref (ad (rp)), .int (nI (pl))] S ad V (w_v S ad (fun V' => RP V' rp rt rl pl h0H ∧ ∀ j, j ≠ rp → V' j = V j)) := by
  refine w_C.of (by decide) (Nat.le_of_ble_eq_true rfl) ?_
  show Wp _ _ _ _ _ _ _ _ _ [(0, .ref (ad (rp))), (1, .int (nI (pl)))] [] S ad V
  refine Wp_aload_n dX4_begin_0 rfl 0 rfl ?_
  refine Wp_iconst (v := (nI (0))) dX4_begin_1 (by decide) ?_
  refine Wp_put fk_X4_18 hP rfl rfl rfl dX4_begin_2 ?_
  refine Wp_aload_n dX4_begin_5 rfl 0 rfl ?_
  refine Wp_iconst (v := (nI (0))) dX4_begin_6 (by decide) ?_
  refine Wp_put fk_X4_22 hP rfl rfl rfl dX4_begin_7 ?_
  refine Wp_aload_n dX4_begin_10 rfl 0 rfl ?_
  refine Wp_iconst (v := (nI (0))) dX4_begin_11 (by decide) ?_
  refine Wp_put fk_X4_25 hP rfl rfl rfl dX4_begin_12 ?_
  refine Wp_aload_n dX4_begin_15 rfl 0 rfl ?_
  refine Wp_iconst (v := (nI (0))) dX4_begin_16 (by decide) ?_
  refine Wp_put fk_X4_28 hP rfl rfl rfl dX4_begin_17 ?_
  refine Wp_aload_n dX4_begin_20 rfl 0 rfl ?_
  refine Wp_iload_n dX4_begin_21 rfl 1 rfl ?_
  refine Wp_bipush (v := (nI (7))) dX4_begin_22 (by decide) ?_
  refine Wp_min (z := (nI (pl))) ml_X4_31 (if_neg (nI_nlt hpl (by omega))) (by decide) (Nat.le_of_ble_eq_true rfl) (by omega) (by omega) dX4_begin_24 ?_
  refine Wp_put fk_X4_37 hP rfl rfl rfl dX4_begin_27 ?_
  exact Wp_vret rfl ⟨rfl, rfl, rfl, by
    refine ⟨⟨?_, ?_, ?_, ?_, ?_, hpl, Nat.zero_le _, Nat.zero_le _, fun k hk => absurd hk (Nat.not_lt_zero k), fun k hk => absurd hk (Nat.not_lt_zero k)⟩, fun j hj => by simp [up2, hj]⟩ <;> simp [up2, upd] <;> rfl⟩ (Nat.le_refl _) (Nat.le_refl _) dX4_begin_30
theorem c_X4_addThing {E : wE} {S : List wK} {ad : Nat → Nat} {V : wV} {rp rt rl : Nat} (hP : S[rp]? = some (.inl (4, [some (some rt), none, none, some (some rl), none, none, none]))) (hrt : S[rt]? = some (.inr (.inl (false, 7)))) {tn room : Nat} (a1 : V rp 1 = nI tn) (a6 : V rp 6 = nI room) (h7 : room ≤ 7) (htn : tn ≤ room) (x : Int32) : w_C E mX4_addThing (w_R 0 0 0) 0 0 [.ref (ad (rp)), .int (x)] S ad V (w_i S ad (fun r V' => (room ≤ tn ∧ r = bI false ∧ V' = V) ∨ (tn < room ∧ r = bI true ∧ V' = up2 (up2 V rt tn x) rp 1 (nI (tn + 1))))) := by
  refine w_C.of (by decide) (Nat.le_of_ble_eq_true rfl) ?_
  show Wp _ _ _ _ _ _ _ _ _ [(0, .ref (ad (rp))), (1, .int (x))] [] S ad V
  refine Wp_aload_n dX4_addThing_0 rfl 0 rfl ?_
  refine Wp_get (x := (nI (tn))) fk_X4_18 hP rfl a1 dX4_addThing_1 ?_
  refine Wp_aload_n dX4_addThing_4 rfl 0 rfl ?_
  refine Wp_get (x := (nI (room))) fk_X4_37 hP rfl a6 dX4_addThing_5 ?_
  refine Wp_icmp_lt (tgt := 13) dX4_addThing_8 (by decide) (nI_toInt (by omega)) (nI_toInt (by omega)) (fun c_8 => ?_) (fun c_8 => ?_)
  · refine Wp_aload_n dX4_addThing_13 rfl 0 rfl ?_
    refine Wp_getr fk_X4_9 hP rfl dX4_addThing_14 ?_
    refine Wp_aload_n dX4_addThing_17 rfl 0 rfl ?_
    refine Wp_get (x := (nI (tn))) fk_X4_18 hP rfl a1 dX4_addThing_18 ?_
    refine Wp_iload_n dX4_addThing_21 rfl 1 rfl ?_
    refine Wp_ist (n := tn) hrt rfl (by omega) (by decide) dX4_addThing_22 ?_
    refine Wp_aload_n dX4_addThing_23 rfl 0 rfl ?_
    refine Wp_dup dX4_addThing_24 rfl ?_
    refine Wp_get (x := (nI (tn))) fk_X4_18 hP rfl ((up2_i (w_ne hP hrt (by simp))).trans a1) dX4_addThing_25 ?_
    refine Wp_iconst (v := (nI (1))) dX4_addThing_28 (by decide) ?_
    refine Wp_iadd (z := (nI ((tn + 1)))) dX4_addThing_29 (nI_add _ _) ?_
    refine Wp_put fk_X4_18 hP rfl rfl rfl dX4_addThing_30 ?_
    refine Wp_iconst (v := (nI (1))) dX4_addThing_33 (by decide) ?_
    exact Wp_zret (b := true) rfl rfl ⟨rfl, rfl, _, rfl, Or.inr ⟨by omega, rfl, rfl⟩⟩ (Nat.le_refl _) (Nat.le_refl _) dX4_addThing_34
  · refine Wp_iconst (v := (nI (0))) dX4_addThing_11 (by decide) ?_
    exact Wp_zret (b := false) rfl rfl ⟨rfl, rfl, _, rfl, Or.inl ⟨by omega, rfl, rfl⟩⟩ (Nat.le_refl _) (Nat.le_refl _) dX4_addThing_12
theorem lp_X4_isThere {E : wE} {S : List wK} {ad : Nat → Nat} {V : wV} {rp rt rl : Nat} (hP : S[rp]? = some (.inl (4, [some (some rt), none, none, some (some rl), none, none, none]))) (hrl : S[rl]? = some (.inr (.inl (false, 7)))) {room : Nat} {g : aH} (r0 : RP V rp rt rl room g) {x : Nat} (hx : x < 8) : ∀ (m : Nat) (i : Nat), i ≤ g.2.2.2.1 → g.2.2.2.1 < i + m → (∀ t, t < i → g.2.2.1 t ≠ x) → Wp E mX4_isThere (w_R 0 0 0) (w_i S ad (fun r V' => r = bI (isth g.2.2.1 g.2.2.2.1 x) ∧ V' = V)) 0 0 0 0 2 [(2, .int (nI (i))), (0, .ref (ad (rp))), (1, .int (nI (x)))] [] S ad V := by
  obtain ⟨r1, r2, r4, r5, r6, r7, r8, r9, r10, r11⟩ := r0
  intro m
  induction m with
  | zero => intro i hi hm hv; omega
  | succ m ih =>
    intro i hi hm hv
    refine Wp_iload_n dX4_isThere_2 rfl 0 rfl ?_
    refine Wp_aload_n dX4_isThere_3 rfl 1 rfl ?_
    refine Wp_get (x := (nI (g.2.2.2.1))) fk_X4_25 hP rfl r4 dX4_isThere_4 ?_
    refine Wp_icmp_ge (tgt := 28) dX4_isThere_7 (by decide) (nI_toInt (by omega)) (nI_toInt (by omega)) (fun c_7 => ?_) (fun c_7 => ?_)
    · refine Wp_iconst (v := (nI (0))) dX4_isThere_28 (by decide) ?_
      exact Wp_zret (b := false) rfl rfl ⟨rfl, rfl, _, rfl, ⟨congrArg bI (decide_eq_false (fun ⟨t, h1, h2⟩ => hv t (by omega) h2)).symm, rfl⟩⟩ (Nat.le_refl _) (Nat.le_refl _) dX4_isThere_29
    · have hle := (r11 i (by omega)).2
      refine Wp_aload_n dX4_isThere_10 rfl 1 rfl ?_
      refine Wp_getr fk_X4_15 hP rfl dX4_isThere_11 ?_
      refine Wp_iload_n dX4_isThere_14 rfl 0 rfl ?_
      refine Wp_ild (n := i) (y := (nI (g.2.2.1 i))) hrl rfl (by omega) (by decide) (r11 i (by omega)).1 dX4_isThere_15 ?_
      refine Wp_iload_n dX4_isThere_16 rfl 2 rfl ?_
      refine Wp_icmp_ne (tgt := 22) dX4_isThere_17 (by decide) (nI_toInt (by omega)) (nI_toInt (by omega)) (fun c_17 => ?_) (fun c_17 => ?_)
      · refine Wp_iinc (x := (nI ((i + 1)))) (lv' := [(2, .int (nI ((i + 1)))), (0, .ref (ad (rp))), (1, .int (nI (x)))]) dX4_isThere_22 0 rfl (w_inc1 _) (by decide) rfl ?_
        refine Wp_goto (tgt := 2) dX4_isThere_25 (by decide) ?_
        exact ih (i + 1) (by omega) (by omega) (fun t ht => by
          rcases Nat.lt_or_ge t i with q | q
          · exact hv t q
          · rw [show t = i by omega]; omega)
      · refine Wp_iconst (v := (nI (1))) dX4_isThere_20 (by decide) ?_
        exact Wp_zret (b := true) rfl rfl ⟨rfl, rfl, _, rfl, ⟨congrArg bI (decide_eq_true ⟨i, by omega, by omega⟩).symm, rfl⟩⟩ (Nat.le_refl _) (Nat.le_refl _) dX4_isThere_21
theorem c_X4_isThere {E : wE} {S : List wK} {ad : Nat → Nat} {V : wV} {rp rt rl : Nat} (hP : S[rp]? = some (.inl (4, [some (some rt), none, none, some (some rl), none, none, none]))) (hrl : S[rl]? = some (.inr (.inl (false, 7)))) {room : Nat} {g : aH} (r0 : RP V rp rt rl room g) {x : Nat} (hx : x < 8) : w_C E mX4_isThere (w_R 0 0 0) 0 0 [.ref (ad (rp)), .int (nI (x))] S ad V (w_i S ad (fun r V' => r = bI (isth g.2.2.1 g.2.2.2.1 x) ∧ V' = V)) := by
  refine w_C.of (by decide) (Nat.le_of_ble_eq_true rfl) ?_
  show Wp _ _ _ _ _ _ _ _ _ [(0, .ref (ad (rp))), (1, .int (nI (x)))] [] S ad V
  refine Wp_iconst (v := (nI (0))) dX4_isThere_0 (by decide) ?_
  refine Wp_istore_n (lv' := [(2, .int (nI (0))), (0, .ref (ad (rp))), (1, .int (nI (x)))]) dX4_isThere_1 rfl (by decide) rfl ?_
  exact lp_X4_isThere hP hrl r0 hx 9 0 (by omega) (by have h8 := r0.2.2.2.2.2.1; have h9 := r0.2.2.2.2.2.2.1; have h10 := r0.2.2.2.2.2.2.2.1; omega) (fun t ht => by omega)
theorem shN_bit (us : Nat → Bool) {k : Nat} (hk : k < 3) : nI (shN us) &&& (nI 1 <<< (nI (k + 1) &&& 31)) = if us k = true then nI (2 ^ (k + 1)) else nI 0 := by
  unfold shN
  rcases (show k = 0 ∨ k = 1 ∨ k = 2 by omega) with rfl | rfl | rfl <;> cases h0 : us 0 <;> cases h1 : us 1 <;> cases h2 : us 2 <;> decide
theorem shN_set (us : Nat → Bool) {k : Nat} (hk : k < 3) (h : us k = false) : nI (shN us) ||| (nI 1 <<< (nI (k + 1) &&& 31)) = nI (shN (va_up us k true)) := by
  unfold shN va_up
  rcases (show k = 0 ∨ k = 1 ∨ k = 2 by omega) with rfl | rfl | rfl <;> cases h0 : us 0 <;> cases h1 : us 1 <;> cases h2 : us 2 <;> first | decide | (rw [h0] at h; cases h) | (rw [h1] at h; cases h) | (rw [h2] at h; cases h)
theorem fsc_t {le : Nat → Nat} {lc : Nat} {us : Nat → Bool} {x k : Nat} (h1 : k < lc) (h2 : le k = x) (h3 : us k = false) : fsc le lc us x k = true := by simp [fsc, h1, h2, h3]
theorem fsc_f {le : Nat → Nat} {lc : Nat} {us : Nat → Bool} {x k : Nat} (h : ¬ k < lc ∨ ¬ le k = x ∨ us k = true) : fsc le lc us x k = false := by
  rcases h with h | h | h <;> simp [fsc, h]
theorem lp_X4_freeSubstitute {E : wE} {S : List wK} {ad : Nat → Nat} {V : wV} {rp rt rl : Nat} (hP : S[rp]? = some (.inl (4, [some (some rt), none, none, some (some rl), none, none, none]))) (hrl : S[rl]? = some (.inr (.inl (false, 7)))) {room : Nat} {g : aH} (r0 : RP V rp rt rl room g) {x : Nat} (hx : x < 8) : ∀ (m : Nat) (n : Nat), n ≤ 3 → 3 < n + m → (∀ t, t < n → fsc g.2.2.1 g.2.2.2.1 g.2.2.2.2.1 x t = false) → Wp E mX4_freeSubstitute (w_R 0 0 0) (w_i S ad (fun r V' => r = sbI (fsb g.2.2.1 g.2.2.2.1 g.2.2.2.2.1 x) ∧ V' = V)) 0 0 0 0 2 [(2, .int (nI ((n + 1)))), (0, .ref (ad (rp))), (1, .int (nI (x)))] [] S ad V := by
  obtain ⟨r1, r2, r4, r5, r6, r7, r8, r9, r10, r11⟩ := r0
  have hl7 : g.2.2.2.1 ≤ 7 := by omega
  intro m
  induction m with
  | zero => intro n hn hm hv; omega
  | succ m ih =>
    intro n hn hm hv
    refine Wp_iload_n dX4_freeSubstitute_2 rfl 0 rfl ?_
    refine Wp_iconst (v := (nI (3))) dX4_freeSubstitute_3 (by decide) ?_
    refine Wp_icmp_gt (tgt := 56) dX4_freeSubstitute_4 (by decide) (nI_toInt (by omega)) (nI_toInt (by omega)) (fun c_4 => ?_) (fun c_4 => ?_)
    · refine Wp_bipush (v := ((-9))) dX4_freeSubstitute_56 (by decide) ?_
      exact Wp_iret rfl ⟨rfl, rfl, _, rfl, ⟨by
      have hz : ∀ t, t < 3 → fsc g.2.2.1 g.2.2.2.1 g.2.2.2.2.1 x t = false := fun t ht => by
        rcases Nat.lt_or_ge t n with q | q
        · exact hv t q
        · exact fsc_f (Or.inl (by omega))
      unfold fsb; rw [if_neg (by rw [hz 0 (by omega)]; decide), if_neg (by rw [hz 1 (by omega)]; decide), if_neg (by rw [hz 2 (by omega)]; decide)]; rfl, rfl⟩⟩ (Nat.le_refl _) (Nat.le_refl _) dX4_freeSubstitute_58
    · refine Wp_iload_n dX4_freeSubstitute_7 rfl 0 rfl ?_
      refine Wp_aload_n dX4_freeSubstitute_8 rfl 1 rfl ?_
      refine Wp_get (x := (nI (g.2.2.2.1))) fk_X4_25 hP rfl r4 dX4_freeSubstitute_9 ?_
      refine Wp_icmp_gt (tgt := 56) dX4_freeSubstitute_12 (by decide) (nI_toInt (by omega)) (nI_toInt (by omega)) (fun c_12 => ?_) (fun c_12 => ?_)
      · refine Wp_bipush (v := ((-9))) dX4_freeSubstitute_56 (by decide) ?_
        exact Wp_iret rfl ⟨rfl, rfl, _, rfl, ⟨by
      have hz : ∀ t, t < 3 → fsc g.2.2.1 g.2.2.2.1 g.2.2.2.2.1 x t = false := fun t ht => by
        rcases Nat.lt_or_ge t n with q | q
        · exact hv t q
        · exact fsc_f (Or.inl (by omega))
      unfold fsb; rw [if_neg (by rw [hz 0 (by omega)]; decide), if_neg (by rw [hz 1 (by omega)]; decide), if_neg (by rw [hz 2 (by omega)]; decide)]; rfl, rfl⟩⟩ (Nat.le_refl _) (Nat.le_refl _) dX4_freeSubstitute_58
      · refine Wp_aload_n dX4_freeSubstitute_15 rfl 1 rfl ?_
        refine Wp_get (x := (nI (shN g.2.2.2.2.1))) fk_X4_28 hP rfl r5 dX4_freeSubstitute_16 ?_
        refine Wp_iconst (v := (nI (1))) dX4_freeSubstitute_19 (by decide) ?_
        refine Wp_iload_n dX4_freeSubstitute_20 rfl 0 rfl ?_
        refine Wp_ishl (z := (nI 1 <<< (nI (n + 1) &&& 31))) dX4_freeSubstitute_21 rfl ?_
        refine Wp_iand (z := (if g.2.2.2.2.1 n = true then nI (2 ^ (n + 1)) else nI 0)) dX4_freeSubstitute_22 (shN_bit _ (by omega)) ?_
        refine Wp_if_ne (tgt := 30) dX4_freeSubstitute_23 (by decide) (rfl) (fun c_23 => ?_) (fun c_23 => ?_)
        · have hu : g.2.2.2.2.1 n = true := by
            cases q : g.2.2.2.2.1 n with
            | true => rfl
            | false => rw [q] at c_23; exact absurd rfl c_23
          refine Wp_iconst (v := (nI (0))) dX4_freeSubstitute_30 (by decide) ?_
          refine Wp_istore_n (lv' := [(3, .int (nI (0))), (2, .int (nI ((n + 1)))), (0, .ref (ad (rp))), (1, .int (nI (x)))]) dX4_freeSubstitute_31 rfl (by decide) rfl ?_
          refine Wp_iload_n dX4_freeSubstitute_32 rfl 0 rfl ?_
          refine Wp_if_eq (tgt := 50) dX4_freeSubstitute_33 (by decide) (nI_toInt (by omega)) (fun c_33 => ?_) (fun c_33 => absurd c_33 (by omega))
          refine Wp_iinc (x := (nI (((n + 1) + 1)))) (lv' := [(2, .int (nI (((n + 1) + 1)))), (3, .int (nI (0))), (0, .ref (ad (rp))), (1, .int (nI (x)))]) dX4_freeSubstitute_50 1 rfl (w_inc1 _) (by decide) rfl ?_
          refine Wp_goto (tgt := 2) dX4_freeSubstitute_53 (by decide) ?_
          refine Wp_lv (lv2 := [(2, .int (nI (((n + 1) + 1)))), (0, .ref (ad (rp))), (1, .int (nI (x)))]) [0, 2, 3] rfl ?_
          exact ih (n + 1) (by omega) (by omega) (fun t ht => by
            rcases Nat.lt_or_ge t n with q | q
            · exact hv t q
            · rw [show t = n by omega]; exact fsc_f (by first | exact Or.inr (Or.inr hu) | exact Or.inr (Or.inl (by omega))))
        · have hu : g.2.2.2.2.1 n = false := by
            cases q : g.2.2.2.2.1 n with
            | false => rfl
            | true =>
              rw [q] at c_23
              rcases (show n = 0 ∨ n = 1 ∨ n = 2 by omega) with rfl | rfl | rfl <;> exact absurd c_23 (by decide)
          have hle := (r11 n (by omega)).2
          refine Wp_iconst (v := (nI (1))) dX4_freeSubstitute_26 (by decide) ?_
          refine Wp_goto (tgt := 31) dX4_freeSubstitute_27 (by decide) ?_
          refine Wp_istore_n (lv' := [(3, .int (nI (1))), (2, .int (nI ((n + 1)))), (0, .ref (ad (rp))), (1, .int (nI (x)))]) dX4_freeSubstitute_31 rfl (by decide) rfl ?_
          refine Wp_iload_n dX4_freeSubstitute_32 rfl 0 rfl ?_
          refine Wp_if_eq (tgt := 50) dX4_freeSubstitute_33 (by decide) (nI_toInt (by omega)) (fun c_33 => absurd c_33 (by omega)) (fun c_33 => ?_)
          refine Wp_aload_n dX4_freeSubstitute_36 rfl 2 rfl ?_
          refine Wp_getr fk_X4_15 hP rfl dX4_freeSubstitute_37 ?_
          refine Wp_iload_n dX4_freeSubstitute_40 rfl 1 rfl ?_
          refine Wp_iconst (v := (nI (1))) dX4_freeSubstitute_41 (by decide) ?_
          refine Wp_isub (z := (nI (((n + 1) - 1)))) dX4_freeSubstitute_42 (pk_sub (by omega)) ?_
          refine Wp_ild (n := n) (y := (nI (g.2.2.1 n))) hrl (by congr 1) (by omega) (by decide) (r11 n (by omega)).1 dX4_freeSubstitute_43 ?_
          refine Wp_iload_n dX4_freeSubstitute_44 rfl 3 rfl ?_
          refine Wp_icmp_ne (tgt := 50) dX4_freeSubstitute_45 (by decide) (nI_toInt (by omega)) (nI_toInt (by omega)) (fun c_45 => ?_) (fun c_45 => ?_)
          · refine Wp_iinc (x := (nI (((n + 1) + 1)))) (lv' := [(2, .int (nI (((n + 1) + 1)))), (3, .int (nI (1))), (0, .ref (ad (rp))), (1, .int (nI (x)))]) dX4_freeSubstitute_50 1 rfl (w_inc1 _) (by decide) rfl ?_
            refine Wp_goto (tgt := 2) dX4_freeSubstitute_53 (by decide) ?_
            refine Wp_lv (lv2 := [(2, .int (nI (((n + 1) + 1)))), (0, .ref (ad (rp))), (1, .int (nI (x)))]) [0, 2, 3] rfl ?_
            exact ih (n + 1) (by omega) (by omega) (fun t ht => by
              rcases Nat.lt_or_ge t n with q | q
              · exact hv t q
              · rw [show t = n by omega]; exact fsc_f (by first | exact Or.inr (Or.inr hu) | exact Or.inr (Or.inl (by omega))))
          · refine Wp_iload_n dX4_freeSubstitute_48 rfl 1 rfl ?_
            exact Wp_iret rfl ⟨rfl, rfl, _, rfl, ⟨by
      have hf := fsc_t (x := x) (show n < g.2.2.2.1 by omega) (show g.2.2.1 n = x by omega) hu
      rcases (show n = 0 ∨ n = 1 ∨ n = 2 by omega) with rfl | rfl | rfl
      · unfold fsb; rw [if_pos hf]; rfl
      · unfold fsb; rw [if_neg (by rw [hv 0 (by omega)]; decide), if_pos hf]; rfl
      · unfold fsb; rw [if_neg (by rw [hv 0 (by omega)]; decide), if_neg (by rw [hv 1 (by omega)]; decide), if_pos hf]; rfl, rfl⟩⟩ (Nat.le_refl _) (Nat.le_refl _) dX4_freeSubstitute_49
theorem c_X4_freeSubstitute {E : wE} {S : List wK} {ad : Nat → Nat} {V : wV} {rp rt rl : Nat} (hP : S[rp]? = some (.inl (4, [some (some rt), none, none, some (some rl), none, none, none]))) (hrl : S[rl]? = some (.inr (.inl (false, 7)))) {room : Nat} {g : aH} (r0 : RP V rp rt rl room g) {x : Nat} (hx : x < 8) : w_C E mX4_freeSubstitute (w_R 0 0 0) 0 0 [.ref (ad (rp)), .int (nI (x))] S ad V (w_i S ad (fun r V' => r = sbI (fsb g.2.2.1 g.2.2.2.1 g.2.2.2.2.1 x) ∧ V' = V)) := by
  refine w_C.of (by decide) (Nat.le_of_ble_eq_true rfl) ?_
  show Wp _ _ _ _ _ _ _ _ _ [(0, .ref (ad (rp))), (1, .int (nI (x)))] [] S ad V
  refine Wp_iconst (v := (nI (1))) dX4_freeSubstitute_0 (by decide) ?_
  refine Wp_istore_n (lv' := [(2, .int (nI (1))), (0, .ref (ad (rp))), (1, .int (nI (x)))]) dX4_freeSubstitute_1 rfl (by decide) rfl ?_
  exact lp_X4_freeSubstitute hP hrl r0 hx 4 0 (by omega) (by omega) (fun t ht => by omega)
end
section
/-! A HOIST: a letter, a code -/
theorem fsb_us {le : Nat → Nat} {lc : Nat} {us : Nat → Bool} {x : Nat} (h : fsb le lc us x ≠ 0) : us (fsb le lc us x - 1) = false := by
  have key : ∀ k, fsc le lc us x k = true → us k = false := fun k q => by
    cases z : us k with
    | false => rfl
    | true => simp [fsc, z] at q
  unfold fsb at h ⊢
  split
  · exact key 0 (by assumption)
  · split
    · exact key 1 (by assumption)
    · split
      · exact key 2 (by assumption)
      · rename_i h1 h2 h3
        rw [if_neg h1, if_neg h2, if_neg h3] at h; exact absurd rfl h
theorem c_X4_addLetter {E : wE} {S : List wK} {ad : Nat → Nat} {V : wV} {rp rt rl : Nat} (hP : S[rp]? = some (.inl (4, [some (some rt), none, none, some (some rl), none, none, none]))) (hrt : S[rt]? = some (.inr (.inl (false, 7)))) (hrl : S[rl]? = some (.inr (.inl (false, 7)))) {room : Nat} {g : aH} (r0 : RP V rp rt rl room g) (hrr : rt ≠ rl) {x : Nat} (hx : x < 8) : w_C E mX4_addLetter (w_R 1 0 0) 0 0 [.ref (ad (rp)), .int (nI (x))] S ad V (w_i S ad (fun r V' => r = bI (hLet room g x).isSome ∧ (∀ g', hLet room g x = some g' → RP V' rp rt rl room g') ∧ ∀ j, j ≠ rp → j ≠ rt → j ≠ rl → V' j = V j)) := by
  refine w_C.of (by decide) (Nat.le_of_ble_eq_true rfl) ?_
  show Wp _ _ _ _ _ _ _ _ _ [(0, .ref (ad (rp))), (1, .int (nI (x)))] [] S ad V
  have n1 : rp ≠ rt := w_ne hP hrt (by simp)
  have n2 : rp ≠ rl := w_ne hP hrl (by simp)
  have n3 : rt ≠ rl := hrr
  have rr := r0
  have hfl := fsb_le g.2.2.1 g.2.2.2.1 g.2.2.2.2.1 x
  obtain ⟨r1, r2, r4, r5, r6, r7, r8, r9, r10, r11⟩ := r0
  refine Wp_iload_n dX4_addLetter_0 rfl 1 rfl ?_
  refine Wp_istore_n (lv' := [(2, .int (nI (x))), (0, .ref (ad (rp))), (1, .int (nI (x)))]) dX4_addLetter_1 rfl (by decide) rfl ?_
  refine Wp_aload_n dX4_addLetter_2 rfl 1 rfl ?_
  refine Wp_iload_n dX4_addLetter_3 rfl 2 rfl ?_
  refine Wp_callVg (c_X4_isThere hP hrl rr hx) YV_X4_isThere ml_X4_52 hP rfl dX4_addLetter_4 (by omega) (by decide) (by omega) (by omega) rfl rfl (Nat.le_of_ble_eq_true rfl) ?_
  refine Wp_ifeq_b (tgt := 51) dX4_addLetter_7 (by decide) (fun c_7 => ?_) (fun c_7 => ?_)
  · refine Wp_aload_n dX4_addLetter_51 rfl 1 rfl ?_
    refine Wp_iload_n dX4_addLetter_52 rfl 0 rfl ?_
    refine Wp_callVi (c_X4_addThing hP hrt r1 r6 r7 r8 _) YV_X4_addThing ml_X4_40 hP rfl dX4_addLetter_53 (by omega) (by decide) (by omega) (by omega) rfl rfl (Nat.le_of_ble_eq_true rfl) (fun rr V9 hr9 => ?_)
    rcases hr9 with ⟨q1, rfl, e9⟩ | ⟨q1, rfl, e9⟩
    · rw [e9]
      refine Wp_ifne_b (tgt := 61) dX4_addLetter_56 (by decide) (fun c_56 => absurd c_56 (by decide)) (fun c_56 => ?_)
      refine Wp_iconst (v := (nI (0))) dX4_addLetter_59 (by decide) ?_
      exact Wp_zret (b := false) rfl rfl ⟨rfl, rfl, _, rfl, by
      have e : hLet room g x = none := by unfold hLet; rw [if_neg (by rw [c_7]; decide), if_pos q1]
      rw [e]; exact ⟨rfl, fun g' hg' => (by cases hg'), fun j h1 h2 h3 => by simp [up2, h1, h2, h3]⟩⟩ (Nat.le_refl _) (Nat.le_refl _) dX4_addLetter_60
    · rw [e9]
      refine Wp_ifne_b (tgt := 61) dX4_addLetter_56 (by decide) (fun c_56 => ?_) (fun c_56 => absurd c_56 (by decide))
      refine Wp_aload_n dX4_addLetter_61 rfl 1 rfl ?_
      refine Wp_getr fk_X4_15 hP rfl dX4_addLetter_62 ?_
      refine Wp_aload_n dX4_addLetter_65 rfl 1 rfl ?_
      refine Wp_get (x := (nI (g.2.2.2.1))) fk_X4_25 hP rfl ((up2_k (by decide)).trans ((up2_i (w_ne hP hrt (by simp))).trans r4)) dX4_addLetter_66 ?_
      refine Wp_iload_n dX4_addLetter_69 rfl 2 rfl ?_
      refine Wp_ist (n := g.2.2.2.1) hrl rfl (by omega) (by decide) dX4_addLetter_70 ?_
      refine Wp_aload_n dX4_addLetter_71 rfl 1 rfl ?_
      refine Wp_dup dX4_addLetter_72 rfl ?_
      refine Wp_get (x := (nI (g.2.2.2.1))) fk_X4_25 hP rfl ((up2_i (w_ne hP hrl (by simp))).trans ((up2_k (by decide)).trans ((up2_i (w_ne hP hrt (by simp))).trans r4))) dX4_addLetter_73 ?_
      refine Wp_iconst (v := (nI (1))) dX4_addLetter_76 (by decide) ?_
      refine Wp_iadd (z := (nI ((g.2.2.2.1 + 1)))) dX4_addLetter_77 (nI_add _ _) ?_
      refine Wp_put fk_X4_25 hP rfl rfl rfl dX4_addLetter_78 ?_
      refine Wp_iconst (v := (nI (1))) dX4_addLetter_81 (by decide) ?_
      exact Wp_zret (b := true) rfl rfl ⟨rfl, rfl, _, rfl, by
      have e : hLet room g x = some (va_up g.1 g.2.1 x, g.2.1 + 1, va_up g.2.2.1 g.2.2.2.1 x, g.2.2.2.1 + 1, g.2.2.2.2.1, g.2.2.2.2.2) := by unfold hLet; rw [if_neg (by rw [c_7]; decide), if_neg (by omega)]
      rw [e]
      refine ⟨rfl, fun g' hg' => ?_, fun j h1 h2 h3 => by simp [up2, h1, h2, h3]⟩
      cases hg'
      refine ⟨?_, ?_, ?_, ?_, ?_, r7, by simp only; omega, by simp only; omega, fun k hk => ?_, fun k hk => ?_⟩
      · simp [up2, upd, n1, n2, n3]
      · simp [up2, upd, n1, n2, n3]; exact r2
      · simp [up2, upd, n1, n2, n3]
      · simp [up2, upd, n1, n2, n3]; exact r5
      · simp [up2, upd, n1, n2, n3]; exact r6
      · have hk : k < g.2.1 + 1 := hk
        by_cases z : k = g.2.1
        · subst z; simp [up2, upd, n1, n2, n3, va_up, Ne.symm n1, Ne.symm n2]
        · simp [up2, upd, n1, n2, n3, va_up, Ne.symm n1, Ne.symm n2, z]; exact r10 k (by omega)
      · have hk : k < g.2.2.2.1 + 1 := hk
        by_cases z : k = g.2.2.2.1
        · subst z; simp [up2, upd, n1, n2, n3, va_up, Ne.symm n1, Ne.symm n2, Ne.symm n3, hx]
        · simp [up2, upd, n1, n2, n3, va_up, Ne.symm n1, Ne.symm n2, Ne.symm n3, z]; exact r11 k (by omega)⟩ (Nat.le_refl _) (Nat.le_refl _) dX4_addLetter_82
  · refine Wp_aload_n dX4_addLetter_10 rfl 1 rfl ?_
    refine Wp_iload_n dX4_addLetter_11 rfl 2 rfl ?_
    refine Wp_callVi (c_X4_freeSubstitute hP hrl rr hx) YV_X4_freeSubstitute ml_X4_55 hP rfl dX4_addLetter_12 (by omega) (by decide) (by omega) (by omega) rfl rfl (Nat.le_of_ble_eq_true rfl) (fun r3 V3 hr3 => ?_)
    obtain ⟨e3, e4⟩ := hr3
    rw [e3, e4]
    rcases Nat.eq_zero_or_pos (fsb g.2.2.1 g.2.2.2.1 g.2.2.2.2.1 x) with q0 | q0
    · rw [show sbI (fsb g.2.2.1 g.2.2.2.1 g.2.2.2.2.1 x) = -9 by rw [q0]; rfl]
      refine Wp_istore_n (lv' := [(3, .int ((-9))), (2, .int (nI (x))), (0, .ref (ad (rp))), (1, .int (nI (x)))]) dX4_addLetter_15 rfl (by decide) rfl ?_
      refine Wp_iload_n dX4_addLetter_16 rfl 0 rfl ?_
      refine Wp_bipush (v := ((-9))) dX4_addLetter_17 (by decide) ?_
      refine Wp_icmp_ne (tgt := 24) dX4_addLetter_19 (by decide) ((by decide : ((-9) : Int32).toInt = (-9))) ((by decide : ((-9) : Int32).toInt = (-9))) (fun c_19 => absurd c_19 (by omega)) (fun c_19 => ?_)
      refine Wp_iconst (v := (nI (0))) dX4_addLetter_22 (by decide) ?_
      exact Wp_zret (b := false) rfl rfl ⟨rfl, rfl, _, rfl, by
      have e : hLet room g x = none := by unfold hLet; rw [if_pos c_7, if_pos q0]
      rw [e]; exact ⟨rfl, fun g' hg' => (by cases hg'), fun j h1 h2 h3 => by simp [up2, h1, h2, h3]⟩⟩ (Nat.le_refl _) (Nat.le_refl _) dX4_addLetter_23
    · rw [show sbI (fsb g.2.2.1 g.2.2.2.1 g.2.2.2.2.1 x) = nI (fsb g.2.2.1 g.2.2.2.1 g.2.2.2.2.1 x) from if_neg (by omega)]
      have hset := shN_set g.2.2.2.2.1 (k := (fsb g.2.2.1 g.2.2.2.1 g.2.2.2.2.1 x) - 1) (by omega) (fsb_us (by omega))
      rw [show (fsb g.2.2.1 g.2.2.2.1 g.2.2.2.2.1 x) - 1 + 1 = (fsb g.2.2.1 g.2.2.2.1 g.2.2.2.2.1 x) by omega] at hset
      refine Wp_istore_n (lv' := [(3, .int (nI ((fsb g.2.2.1 g.2.2.2.1 g.2.2.2.2.1 x)))), (2, .int (nI (x))), (0, .ref (ad (rp))), (1, .int (nI (x)))]) dX4_addLetter_15 rfl (by decide) rfl ?_
      refine Wp_iload_n dX4_addLetter_16 rfl 0 rfl ?_
      refine Wp_bipush (v := ((-9))) dX4_addLetter_17 (by decide) ?_
      refine Wp_icmp_ne (tgt := 24) dX4_addLetter_19 (by decide) (nI_toInt (by omega)) ((by decide : ((-9) : Int32).toInt = (-9))) (fun c_19 => ?_) (fun c_19 => absurd c_19 (by omega))
      refine Wp_aload_n dX4_addLetter_24 rfl 2 rfl ?_
      refine Wp_dup dX4_addLetter_25 rfl ?_
      refine Wp_get (x := (nI (shN g.2.2.2.2.1))) fk_X4_28 hP rfl r5 dX4_addLetter_26 ?_
      refine Wp_iconst (v := (nI (1))) dX4_addLetter_29 (by decide) ?_
      refine Wp_iload_n dX4_addLetter_30 rfl 0 rfl ?_
      refine Wp_ishl (z := (nI 1 <<< (nI (fsb g.2.2.1 g.2.2.2.1 g.2.2.2.2.1 x) &&& 31))) dX4_addLetter_31 rfl ?_
      refine Wp_ior (z := (nI (shN (va_up g.2.2.2.2.1 ((fsb g.2.2.1 g.2.2.2.1 g.2.2.2.2.1 x) - 1) true)))) dX4_addLetter_32 hset ?_
      refine Wp_put fk_X4_28 hP rfl rfl rfl dX4_addLetter_33 ?_
      refine Wp_aload_n dX4_addLetter_36 rfl 2 rfl ?_
      refine Wp_dup dX4_addLetter_37 rfl ?_
      refine Wp_get (x := (nI (g.2.2.2.2.2))) fk_X4_22 hP rfl ((up2_k (by decide)).trans r2) dX4_addLetter_38 ?_
      refine Wp_iconst (v := (nI (1))) dX4_addLetter_41 (by decide) ?_
      refine Wp_iadd (z := (nI ((g.2.2.2.2.2 + 1)))) dX4_addLetter_42 (nI_add _ _) ?_
      refine Wp_put fk_X4_22 hP rfl rfl rfl dX4_addLetter_43 ?_
      refine Wp_bipush (v := (nI (10))) dX4_addLetter_46 (by decide) ?_
      refine Wp_iload_n dX4_addLetter_48 rfl 0 rfl ?_
      refine Wp_iadd (z := (nI ((10 + (fsb g.2.2.1 g.2.2.2.1 g.2.2.2.2.1 x))))) dX4_addLetter_49 (nI_add _ _) ?_
      refine Wp_istore_n (lv' := [(2, .int (nI ((10 + (fsb g.2.2.1 g.2.2.2.1 g.2.2.2.2.1 x))))), (3, .int (nI ((fsb g.2.2.1 g.2.2.2.1 g.2.2.2.2.1 x)))), (0, .ref (ad (rp))), (1, .int (nI (x)))]) dX4_addLetter_50 rfl (by decide) rfl ?_
      refine Wp_aload_n dX4_addLetter_51 rfl 2 rfl ?_
      refine Wp_iload_n dX4_addLetter_52 rfl 0 rfl ?_
      refine Wp_callVi (c_X4_addThing hP hrt (by simp [up2, upd]; exact r1) (by simp [up2, upd]; exact r6) r7 r8 _) YV_X4_addThing ml_X4_40 hP rfl dX4_addLetter_53 (by omega) (by decide) (by omega) (by omega) rfl rfl (Nat.le_of_ble_eq_true rfl) (fun rr V9 hr9 => ?_)
      rcases hr9 with ⟨q1, rfl, e9⟩ | ⟨q1, rfl, e9⟩
      · rw [e9]
        refine Wp_ifne_b (tgt := 61) dX4_addLetter_56 (by decide) (fun c_56 => absurd c_56 (by decide)) (fun c_56 => ?_)
        refine Wp_iconst (v := (nI (0))) dX4_addLetter_59 (by decide) ?_
        exact Wp_zret (b := false) rfl rfl ⟨rfl, rfl, _, rfl, by
      have e : hLet room g x = none := by unfold hLet; rw [if_pos c_7, if_neg (by omega), if_pos q1]
      rw [e]; exact ⟨rfl, fun g' hg' => (by cases hg'), fun j h1 h2 h3 => by simp [up2, h1, h2, h3]⟩⟩ (Nat.le_refl _) (Nat.le_refl _) dX4_addLetter_60
      · rw [e9]
        refine Wp_ifne_b (tgt := 61) dX4_addLetter_56 (by decide) (fun c_56 => ?_) (fun c_56 => absurd c_56 (by decide))
        refine Wp_aload_n dX4_addLetter_61 rfl 2 rfl ?_
        refine Wp_getr fk_X4_15 hP rfl dX4_addLetter_62 ?_
        refine Wp_aload_n dX4_addLetter_65 rfl 2 rfl ?_
        refine Wp_get (x := (nI (g.2.2.2.1))) fk_X4_25 hP rfl ((up2_k (by decide)).trans ((up2_i (w_ne hP hrt (by simp))).trans ((up2_k (by decide)).trans ((up2_k (by decide)).trans r4)))) dX4_addLetter_66 ?_
        refine Wp_iload_n dX4_addLetter_69 rfl 3 rfl ?_
        refine Wp_ist (n := g.2.2.2.1) hrl rfl (by omega) (by decide) dX4_addLetter_70 ?_
        refine Wp_aload_n dX4_addLetter_71 rfl 2 rfl ?_
        refine Wp_dup dX4_addLetter_72 rfl ?_
        refine Wp_get (x := (nI (g.2.2.2.1))) fk_X4_25 hP rfl ((up2_i (w_ne hP hrl (by simp))).trans ((up2_k (by decide)).trans ((up2_i (w_ne hP hrt (by simp))).trans ((up2_k (by decide)).trans ((up2_k (by decide)).trans r4))))) dX4_addLetter_73 ?_
        refine Wp_iconst (v := (nI (1))) dX4_addLetter_76 (by decide) ?_
        refine Wp_iadd (z := (nI ((g.2.2.2.1 + 1)))) dX4_addLetter_77 (nI_add _ _) ?_
        refine Wp_put fk_X4_25 hP rfl rfl rfl dX4_addLetter_78 ?_
        refine Wp_iconst (v := (nI (1))) dX4_addLetter_81 (by decide) ?_
        exact Wp_zret (b := true) rfl rfl ⟨rfl, rfl, _, rfl, by
      have e : hLet room g x = some (va_up g.1 g.2.1 (10 + (fsb g.2.2.1 g.2.2.2.1 g.2.2.2.2.1 x)), g.2.1 + 1, va_up g.2.2.1 g.2.2.2.1 x, g.2.2.2.1 + 1, va_up g.2.2.2.2.1 ((fsb g.2.2.1 g.2.2.2.1 g.2.2.2.2.1 x) - 1) true, g.2.2.2.2.2 + 1) := by unfold hLet; rw [if_pos c_7, if_neg (by omega), if_neg (by omega)]
      rw [e]
      refine ⟨rfl, fun g' hg' => ?_, fun j h1 h2 h3 => by simp [up2, h1, h2, h3]⟩
      cases hg'
      refine ⟨?_, ?_, ?_, ?_, ?_, r7, by simp only; omega, by simp only; omega, fun k hk => ?_, fun k hk => ?_⟩
      · simp [up2, upd, n1, n2, n3]
      · simp [up2, upd, n1, n2, n3]
      · simp [up2, upd, n1, n2, n3]
      · simp [up2, upd, n1, n2, n3]
      · simp [up2, upd, n1, n2, n3]; exact r6
      · have hk : k < g.2.1 + 1 := hk
        by_cases z : k = g.2.1
        · subst z; simp [up2, upd, n1, n2, n3, va_up, Ne.symm n1, Ne.symm n2]
        · simp [up2, upd, n1, n2, n3, va_up, Ne.symm n1, Ne.symm n2, z]; exact r10 k (by omega)
      · have hk : k < g.2.2.2.1 + 1 := hk
        by_cases z : k = g.2.2.2.1
        · subst z; simp [up2, upd, n1, n2, n3, va_up, Ne.symm n1, Ne.symm n2, Ne.symm n3, hx]
        · simp [up2, upd, n1, n2, n3, va_up, Ne.symm n1, Ne.symm n2, Ne.symm n3, z]; exact r11 k (by omega)⟩ (Nat.le_refl _) (Nat.le_refl _) dX4_addLetter_82
end
section
/-! A HOIST: a code -/
theorem BK.of {V V' : wV} {h k n : Nat} {ln : Nat → Nat} {lt : Nat → Nat → Nat} (b : BK V h k n ln lt) (h1 : V' h = V h) (h2 : V' k = V k) : BK V' h k n ln lt := by
  unfold BK; rw [h1, h2]; exact b
theorem FG.of {V V' : wV} {c z : Nat} {col siz : Nat → Nat} (b : FG V c z col siz) (h1 : V' c = V c) (h2 : V' z = V z) : FG V' c z col siz := by
  unfold FG; rw [h1, h2]; exact b
theorem lp_X4_addCode {E : wE} {S : List wK} {ad : Nat → Nat} {V : wV} {rp rt rl h c z k : Nat} (hP : S[rp]? = some (.inl (4, [some (some rt), none, none, some (some rl), none, none, none]))) (hrt : S[rt]? = some (.inr (.inl (false, 7)))) (hrl : S[rl]? = some (.inr (.inl (false, 7)))) (hB : S[h]? = some (.inl (0, [some (some c), some (some z), some (some k), none, none]))) (hk : S[k]? = some (.inr (.inl (false, 10)))) {room : Nat} {g : aH} (r0 : RP V rp rt rl room g) {n : Nat} {ln : Nat → Nat} {lt : Nat → Nat → Nat} (b : BK V h k n ln lt) (hrr : rt ≠ rl) {s : Nat} (hs : s < n)  : ∀ (m : Nat) (i : Nat) (g1 : aH) (V1 : wV), i ≤ 4 → 4 < i + m → hCode room ln lt s g = hLs room (lt s) (ln s - i) i g1 → RP V1 rp rt rl room g1 → (∀ j, j ≠ rp → j ≠ rt → j ≠ rl → V1 j = V j) → Wp E mX4_addCode (w_R 2 0 0) (w_i S ad (fun r V' => r = bI (hCode room ln lt s g).isSome ∧ (∀ g', hCode room ln lt s g = some g' → RP V' rp rt rl room g') ∧ ∀ j, j ≠ rp → j ≠ rt → j ≠ rl → V' j = V j)) 0 0 0 0 20 [(3, .int (nI (i))), (0, .ref (ad (rp))), (1, .ref (ad (h))), (2, .int (nI (s)))] [] S ad V1 := by
  have n1 : rp ≠ rt := w_ne hP hrt (by simp)
  have n2 : rp ≠ rl := w_ne hP hrl (by simp)
  have m1 : h ≠ rp := w_ne hB hP (by simp)
  have m2 : h ≠ rt := w_ne hB hrt (by simp)
  have m3 : h ≠ rl := w_ne hB hrl (by simp)
  have m4 : k ≠ rp := w_ne hk hP (by simp)
  have m5 : k ≠ rt := w_ne hk hrt (by simp)
  have m6 : k ≠ rl := w_ne hk hrl (by simp)
  have hn10 := b.2.1
  have hl4 := (b.2.2 s hs).2.2.1
  intro m
  induction m with
  | zero => intro i g1 V1 hi hm hE q0 fr; omega
  | succ m ih =>
    intro i g1 V1 hi hm hE q0 fr
    refine Wp_iload_n dX4_addCode_20 rfl 0 rfl ?_
    refine Wp_iconst (v := (nI (4))) dX4_addCode_21 (by decide) ?_
    refine Wp_icmp_ge (tgt := 57) dX4_addCode_22 (by decide) (nI_toInt (by omega)) (nI_toInt (by omega)) (fun c_22 => ?_) (fun c_22 => ?_)
    · refine Wp_iconst (v := (nI (1))) dX4_addCode_57 (by decide) ?_
      exact Wp_zret (b := true) rfl rfl ⟨rfl, rfl, _, rfl, by
      have e : hCode room ln lt s g = some g1 := by rw [hE, show ln s - i = 0 by omega]; rfl
      rw [e]; exact ⟨rfl, fun g' hg' => (by cases hg'; exact q0), fr⟩⟩ (Nat.le_refl _) (Nat.le_refl _) dX4_addCode_58
    · have b1 : BK V1 h k n ln lt := b.of (fr h m1 m2 m3) (fr k m4 m5 m6)
      refine Wp_aload_n dX4_addCode_25 rfl 2 rfl ?_
      refine Wp_iload_n dX4_addCode_26 rfl 3 rfl ?_
      refine Wp_iload_n dX4_addCode_27 rfl 0 rfl ?_
      refine Wp_callVi (c_X0_letterOf hB hk b1 (s := s) (i := i) hs (by omega)) YV_X0_letterOf ml_X4_44 hB rfl dX4_addCode_28 (by omega) (by decide) (by omega) (by omega) rfl rfl (Nat.le_of_ble_eq_true rfl) (fun r5 V5 hr5 => ?_)
      obtain ⟨e5, e6⟩ := hr5
      rw [e5, e6]
      rcases Nat.lt_or_ge i (ln s) with hil | hil
      · have hlt := (b.2.2 s hs).2.2.2 i hil
        rw [show ltI (dg ln lt s i) = nI (lt s i) by unfold dg; rw [if_pos hil]; rfl]
        have hE2 : hCode room ln lt s g = (hLet room g1 (lt s i)).bind (hLs room (lt s) (ln s - (i + 1)) (i + 1)) := by rw [hE, show ln s - i = (ln s - (i + 1)) + 1 by omega]; rfl
        refine Wp_istore (lv' := [(4, .int (nI (lt s i))), (3, .int (nI (i))), (0, .ref (ad (rp))), (1, .ref (ad (h))), (2, .int (nI (s)))]) dX4_addCode_31 (by decide) rfl ?_
        refine Wp_iload dX4_addCode_33 0 rfl ?_
        refine Wp_bipush (v := ((-9))) dX4_addCode_35 (by decide) ?_
        refine Wp_icmp_eq (tgt := 51) dX4_addCode_37 (by decide) (nI_toInt (by omega)) ((by decide : ((-9) : Int32).toInt = (-9))) (fun c_37 => absurd c_37 (by omega)) (fun c_37 => ?_)
        refine Wp_aload_n dX4_addCode_40 rfl 2 rfl ?_
        refine Wp_iload dX4_addCode_41 0 rfl ?_
        refine Wp_callVi (c_X4_addLetter hP hrt hrl q0 hrr hlt) YV_X4_addLetter ml_X4_49 hP rfl dX4_addCode_43 (by omega) (by decide) (by omega) (by omega) rfl rfl (Nat.le_of_ble_eq_true rfl) (fun r7 V7 hr7 => ?_)
        obtain ⟨e7, p7, fr7⟩ := hr7
        subst e7
        refine Wp_ifne_b (tgt := 51) dX4_addCode_46 (by decide) (fun c_46 => ?_) (fun c_46 => ?_)
        · refine Wp_iinc (x := (nI ((i + 1)))) (lv' := [(3, .int (nI ((i + 1)))), (4, .int (nI (lt s i))), (0, .ref (ad (rp))), (1, .ref (ad (h))), (2, .int (nI (s)))]) dX4_addCode_51 1 rfl (w_inc1 _) (by decide) rfl ?_
          refine Wp_goto (tgt := 20) dX4_addCode_54 (by decide) ?_
          refine Wp_lv (lv2 := [(3, .int (nI (i + 1))), (0, .ref (ad rp)), (1, .ref (ad h)), (2, .int (nI s))]) [0, 2, 3, 4] rfl ?_
          obtain ⟨g2, hg2⟩ := Option.isSome_iff_exists.mp c_46
          rw [hg2] at hE2
          exact ih (i + 1) g2 V7 (by omega) (by omega) hE2 (p7 g2 hg2) (fun j h1 h2 h3 => by rw [fr7 j h1 h2 h3, fr j h1 h2 h3])
        · refine Wp_iconst (v := (nI (0))) dX4_addCode_49 (by decide) ?_
          exact Wp_zret (b := false) rfl rfl ⟨rfl, rfl, _, rfl, by
      have hno : hLet room g1 (lt s i) = none := by
        cases q : hLet room g1 (lt s i) with
        | none => rfl
        | some w => rw [q] at c_46; cases c_46
      rw [hno] at hE2
      rw [hE2]; exact ⟨rfl, fun g' hg' => (by cases hg'), fun j h1 h2 h3 => by rw [fr7 j h1 h2 h3, fr j h1 h2 h3]⟩⟩ (Nat.le_refl _) (Nat.le_refl _) dX4_addCode_50
      · rw [show ltI (dg ln lt s i) = -9 by unfold dg; rw [if_neg (by omega)]; rfl]
        have hE2 : hCode room ln lt s g = hLs room (lt s) (ln s - (i + 1)) (i + 1) g1 := by rw [hE, show ln s - i = 0 by omega, show ln s - (i + 1) = 0 by omega]; rfl
        refine Wp_istore (lv' := [(4, .int ((-9))), (3, .int (nI (i))), (0, .ref (ad (rp))), (1, .ref (ad (h))), (2, .int (nI (s)))]) dX4_addCode_31 (by decide) rfl ?_
        refine Wp_iload dX4_addCode_33 0 rfl ?_
        refine Wp_bipush (v := ((-9))) dX4_addCode_35 (by decide) ?_
        refine Wp_icmp_eq (tgt := 51) dX4_addCode_37 (by decide) ((by decide : ((-9) : Int32).toInt = (-9))) ((by decide : ((-9) : Int32).toInt = (-9))) (fun c_37 => ?_) (fun c_37 => absurd c_37 (by omega))
        refine Wp_iinc (x := (nI ((i + 1)))) (lv' := [(3, .int (nI ((i + 1)))), (4, .int ((-9))), (0, .ref (ad (rp))), (1, .ref (ad (h))), (2, .int (nI (s)))]) dX4_addCode_51 1 rfl (w_inc1 _) (by decide) rfl ?_
        refine Wp_goto (tgt := 20) dX4_addCode_54 (by decide) ?_
        refine Wp_lv (lv2 := [(3, .int (nI (i + 1))), (0, .ref (ad rp)), (1, .ref (ad h)), (2, .int (nI s))]) [0, 2, 3, 4] rfl ?_
        exact ih (i + 1) g1 V1 (by omega) (by omega) hE2 q0 fr
theorem c_X4_addCode {E : wE} {S : List wK} {ad : Nat → Nat} {V : wV} {rp rt rl h c z k : Nat} (hP : S[rp]? = some (.inl (4, [some (some rt), none, none, some (some rl), none, none, none]))) (hrt : S[rt]? = some (.inr (.inl (false, 7)))) (hrl : S[rl]? = some (.inr (.inl (false, 7)))) (hB : S[h]? = some (.inl (0, [some (some c), some (some z), some (some k), none, none]))) (hk : S[k]? = some (.inr (.inl (false, 10)))) {room : Nat} {g : aH} (r0 : RP V rp rt rl room g) {n : Nat} {ln : Nat → Nat} {lt : Nat → Nat → Nat} (b : BK V h k n ln lt) (hrr : rt ≠ rl) {s : Nat} (hs : s < n)  : w_C E mX4_addCode (w_R 2 0 0) 0 0 [.ref (ad (rp)), .ref (ad (h)), .int (nI (s))] S ad V (w_i S ad (fun r V' => r = bI (hCode room ln lt s g).isSome ∧ (∀ g', hCode room ln lt s g = some g' → RP V' rp rt rl room g') ∧ ∀ j, j ≠ rp → j ≠ rt → j ≠ rl → V' j = V j)) := by
  refine w_C.of (by decide) (Nat.le_of_ble_eq_true rfl) ?_
  show Wp _ _ _ _ _ _ _ _ _ [(0, .ref (ad (rp))), (1, .ref (ad (h))), (2, .int (nI (s)))] [] S ad V
  have n1 : rp ≠ rt := w_ne hP hrt (by simp)
  have n2 : rp ≠ rl := w_ne hP hrl (by simp)
  have m1 : h ≠ rp := w_ne hB hP (by simp)
  have m2 : h ≠ rt := w_ne hB hrt (by simp)
  have m3 : h ≠ rl := w_ne hB hrl (by simp)
  have m4 : k ≠ rp := w_ne hk hP (by simp)
  have m5 : k ≠ rt := w_ne hk hrt (by simp)
  have m6 : k ≠ rl := w_ne hk hrl (by simp)
  have hn10 := b.2.1
  have hl4 := (b.2.2 s hs).2.2.1
  have rr := r0
  obtain ⟨r1, r2, r4, r5, r6, r7, r8, r9, r10, r11⟩ := r0
  refine Wp_aload_n dX4_addCode_0 rfl 0 rfl ?_
  refine Wp_get (x := (nI (g.2.1))) fk_X4_18 hP rfl r1 dX4_addCode_1 ?_
  refine Wp_if_le (tgt := 18) dX4_addCode_4 (by decide) (nI_toInt (by omega)) (fun c_4 => ?_) (fun c_4 => ?_)
  · refine Wp_iconst (v := (nI (0))) dX4_addCode_18 (by decide) ?_
    refine Wp_istore_n (lv' := [(3, .int (nI (0))), (0, .ref (ad (rp))), (1, .ref (ad (h))), (2, .int (nI (s)))]) dX4_addCode_19 rfl (by decide) rfl ?_
    refine Wp_lv (lv2 := [(3, .int (nI 0)), (0, .ref (ad rp)), (1, .ref (ad h)), (2, .int (nI s))]) [0, 1, 2, 3] rfl ?_
    exact lp_X4_addCode hP hrt hrl hB hk rr b hrr hs 5 0 g V (by omega) (by omega) (by unfold hCode; rw [if_pos (by omega)]; rfl) rr (fun _ _ _ _ => rfl)
  · refine Wp_aload_n dX4_addCode_7 rfl 0 rfl ?_
    refine Wp_bipush (v := (nI (20))) dX4_addCode_8 (by decide) ?_
    refine Wp_callVi (c_X4_addThing hP hrt r1 r6 r7 r8 _) YV_X4_addThing ml_X4_40 hP rfl dX4_addCode_10 (by omega) (by decide) (by omega) (by omega) rfl rfl (Nat.le_of_ble_eq_true rfl) (fun rr9 V9 hr9 => ?_)
    rcases hr9 with ⟨q1, rfl, e9⟩ | ⟨q1, rfl, e9⟩
    · rw [e9]
      refine Wp_ifne_b (tgt := 18) dX4_addCode_13 (by decide) (fun c_13 => absurd c_13 (by decide)) (fun c_13 => ?_)
      refine Wp_iconst (v := (nI (0))) dX4_addCode_16 (by decide) ?_
      exact Wp_zret (b := false) rfl rfl ⟨rfl, rfl, _, rfl, by
      have e : hCode room ln lt s g = none := by unfold hCode; rw [if_neg (by omega)]; unfold hTac; rw [if_pos q1]; rfl
      rw [e]; exact ⟨rfl, fun g' hg' => (by cases hg'), fun _ _ _ _ => rfl⟩⟩ (Nat.le_refl _) (Nat.le_refl _) dX4_addCode_17
    · rw [e9]
      refine Wp_ifne_b (tgt := 18) dX4_addCode_13 (by decide) (fun c_13 => ?_) (fun c_13 => absurd c_13 (by decide))
      refine Wp_iconst (v := (nI (0))) dX4_addCode_18 (by decide) ?_
      refine Wp_istore_n (lv' := [(3, .int (nI (0))), (0, .ref (ad (rp))), (1, .ref (ad (h))), (2, .int (nI (s)))]) dX4_addCode_19 rfl (by decide) rfl ?_
      refine Wp_lv (lv2 := [(3, .int (nI 0)), (0, .ref (ad rp)), (1, .ref (ad h)), (2, .int (nI s))]) [0, 1, 2, 3] rfl ?_
      exact lp_X4_addCode hP hrt hrl hB hk rr b hrr hs 5 0 (va_up g.1 g.2.1 20, g.2.1 + 1, g.2.2) _ (by omega) (by omega) (by unfold hCode; rw [if_neg (by omega)]; unfold hTac; rw [if_neg (by omega)]; rfl) (by
        refine ⟨by rw [up2_s], ?_, ?_, ?_, ?_, r7, by simp only; omega, by simp only; omega, fun q hq => ?_, fun q hq => ?_⟩
        · simp [up2, upd, n1]; exact r2
        · simp [up2, upd, n1]; exact r4
        · simp [up2, upd, n1]; exact r5
        · simp [up2, upd, n1]; exact r6
        · have hq : q < g.2.1 + 1 := hq
          rw [up2_i (Ne.symm n1)]
          by_cases z : q = g.2.1
          · subst z; rw [up2_s]; simp [va_up]
          · rw [up2_k z]; simp only [va_up, if_neg z]; exact r10 q (by omega)
        · rw [up2_i (Ne.symm n2), up2_i (Ne.symm hrr)]; exact r11 q hq) (fun j h1 h2 h3 => by simp [up2, h1, h2])
end
section
/-! THE CUT: which hoists are lawful, the fewest from a place on -/
def law (room : Nat) (ln : Nat → Nat) (lt : Nat → Nat → Nat) (row : Nat → Nat) (i e : Nat) : Bool := (hRw room ln lt row (e - i) i h0H).isSome
theorem hRw_snoc {room : Nat} {ln : Nat → Nat} {lt : Nat → Nat → Nat} {row : Nat → Nat} (f i : Nat) (h : aH) : hRw room ln lt row (f + 1) i h = (hRw room ln lt row f i h).bind (hCode room ln lt (row (i + f))) := by
  induction f generalizing i h with
  | zero =>
    show (hCode room ln lt (row i) h).bind (hRw room ln lt row 0 (i + 1)) = hCode room ln lt (row i) h
    cases hCode room ln lt (row i) h <;> rfl
  | succ f ih =>
    rw [show hRw room ln lt row (f + 1 + 1) i h = (hCode room ln lt (row i) h).bind (hRw room ln lt row (f + 1) (i + 1)) from rfl]
    rw [show hRw room ln lt row (f + 1) i h = (hCode room ln lt (row i) h).bind (hRw room ln lt row f (i + 1)) from rfl]
    cases q : hCode room ln lt (row i) h with
    | none => rfl
    | some w =>
      show hRw room ln lt row (f + 1) (i + 1) w = _
      rw [ih (i + 1) w, show i + 1 + f = i + (f + 1) by omega]
      rfl
theorem hRw_mono {room : Nat} {ln : Nat → Nat} {lt : Nat → Nat → Nat} {row : Nat → Nat} {f i : Nat} {h : aH} (hn : hRw room ln lt row f i h = none) (k : Nat) : hRw room ln lt row (f + k) i h = none := by
  induction k with
  | zero => exact hn
  | succ k ih => rw [show f + (k + 1) = f + k + 1 by omega, hRw_snoc, ih]; rfl
theorem law_mono {room : Nat} {ln : Nat → Nat} {lt : Nat → Nat → Nat} {row : Nat → Nat} {i e e2 : Nat} (h : law room ln lt row i e2 = true) (he : e ≤ e2) (hi : i ≤ e) : law room ln lt row i e = true := by
  unfold law at h ⊢
  cases q : hRw room ln lt row (e - i) i h0H with
  | some w => rfl
  | none =>
    have := hRw_mono q (e2 - e)
    rw [show e - i + (e2 - e) = e2 - i by omega] at this
    rw [this] at h; cases h
def BEST (lw : Nat → Nat → Bool) (f : Nat → Nat) (n i F X : Nat) : Prop := i < X ∧ X ≤ n ∧ lw i X = true ∧ F = f X + 1 ∧ ∀ e, i < e → e ≤ n → lw i e = true → F ≤ f e + 1 ∧ (f e + 1 ≤ F → e ≤ X)
/-- the row at hand -/
def RW (V : wV) (ct rw n pl nb : Nat) (row : Nat → Nat) : Prop := V ct 5 = nI n ∧ V ct 6 = nI pl ∧ n ≤ 8 ∧ pl ≤ 7 ∧ ∀ q, q < n → V rw q = nI (row q) ∧ row q < nb
theorem RW.of {V V' : wV} {ct rw n pl nb : Nat} {row : Nat → Nat} (h : RW V ct rw n pl nb row) (h1 : V' ct = V ct) (h2 : V' rw = V rw) : RW V' ct rw n pl nb row := by
  unfold RW; rw [h1, h2]; exact h
theorem lp_X1_findFewest {E : wE} {S : List wK} {ad : Nat → Nat} {V : wV} {ct ss rp rw h fw nx rt rl c z k : Nat} (hC : S[ct]? = some (.inl (1, [none, none, some (some ss), some (some rp), some (some rw), none, none, some (some h), some (some fw), some (some nx)]))) (hP : S[rp]? = some (.inl (4, [some (some rt), none, none, some (some rl), none, none, none]))) (hrt : S[rt]? = some (.inr (.inl (false, 7)))) (hrl : S[rl]? = some (.inr (.inl (false, 7)))) (hrw : S[rw]? = some (.inr (.inl (false, 8)))) (hfw : S[fw]? = some (.inr (.inl (false, 9)))) (hnx : S[nx]? = some (.inr (.inl (false, 9)))) (hB : S[h]? = some (.inl (0, [some (some c), some (some z), some (some k), none, none]))) (hk : S[k]? = some (.inr (.inl (false, 10)))) {nb : Nat} {ln : Nat → Nat} {lt : Nat → Nat → Nat} (b : BK V h k nb ln lt) {n pl : Nat} {row : Nat → Nat} (w0 : RW V ct rw n pl nb row) (hrr : rt ≠ rl) (hfn : fw ≠ nx) {f : Nat → Nat} {i : Nat} (hi : i < n) (hf : ∀ e, i < e → e ≤ n → V fw e = nI (f e) ∧ f e ≤ n - e)  : ∀ (m : Nat) (e : Nat) (F : Nat) (X : Nat) (g1 : aH) (V1 : wV), i + 1 < e → e ≤ n + 1 → n + 1 < e + m → hRw pl ln lt row (e - 1 - i) i h0H = some g1 → RP V1 rp rt rl pl g1 → V1 fw i = nI F → V1 nx i = nI X → i < X → X < e → F = f X + 1 → (∀ q, i < q → q < e → F ≤ f q + 1 ∧ (f q + 1 ≤ F → q ≤ X)) → (∀ q, q ≠ i → V1 fw q = V fw q ∧ V1 nx q = V nx q) → (∀ j, j ≠ rp → j ≠ rt → j ≠ rl → j ≠ fw → j ≠ nx → V1 j = V j) → Wp E mX1_findFewest (w_R 3 0 0) (w_i S ad (fun r V' => r = bI ((law pl ln lt row) i (i + 1)) ∧ ((law pl ln lt row) i (i + 1) = true → ∃ F X, V' fw i = nI F ∧ V' nx i = nI X ∧ BEST (law pl ln lt row) f n i F X) ∧ (∀ q, q ≠ i → V' fw q = V fw q ∧ V' nx q = V nx q) ∧ ∀ j, j ≠ rp → j ≠ rt → j ≠ rl → j ≠ fw → j ≠ nx → V' j = V j)) 0 0 0 0 17 [(3, .int (nI (e))), (2, .int (nI (1))), (0, .ref (ad (ct))), (1, .int (nI (i)))] [] S ad V1 := by
  have n_ct_rp : ct ≠ rp := w_ne hC hP (by simp)
  have n_ct_rt : ct ≠ rt := w_ne hC hrt (by simp)
  have n_ct_rl : ct ≠ rl := w_ne hC hrl (by simp)
  have n_ct_fw : ct ≠ fw := w_ne hC hfw (by simp)
  have n_ct_nx : ct ≠ nx := w_ne hC hnx (by simp)
  have n_rw_rp : rw ≠ rp := w_ne hrw hP (by simp)
  have n_rw_rt : rw ≠ rt := w_ne hrw hrt (by simp)
  have n_rw_rl : rw ≠ rl := w_ne hrw hrl (by simp)
  have n_rw_fw : rw ≠ fw := w_ne hrw hfw (by simp)
  have n_rw_nx : rw ≠ nx := w_ne hrw hnx (by simp)
  have n_h_rp : h ≠ rp := w_ne hB hP (by simp)
  have n_h_rt : h ≠ rt := w_ne hB hrt (by simp)
  have n_h_rl : h ≠ rl := w_ne hB hrl (by simp)
  have n_h_fw : h ≠ fw := w_ne hB hfw (by simp)
  have n_h_nx : h ≠ nx := w_ne hB hnx (by simp)
  have n_k_rp : k ≠ rp := w_ne hk hP (by simp)
  have n_k_rt : k ≠ rt := w_ne hk hrt (by simp)
  have n_k_rl : k ≠ rl := w_ne hk hrl (by simp)
  have n_k_fw : k ≠ fw := w_ne hk hfw (by simp)
  have n_k_nx : k ≠ nx := w_ne hk hnx (by simp)
  have n_fw_rp : fw ≠ rp := w_ne hfw hP (by simp)
  have n_fw_rt : fw ≠ rt := w_ne hfw hrt (by simp)
  have n_fw_rl : fw ≠ rl := w_ne hfw hrl (by simp)
  have n_nx_rp : nx ≠ rp := w_ne hnx hP (by simp)
  have n_nx_rt : nx ≠ rt := w_ne hnx hrt (by simp)
  have n_nx_rl : nx ≠ rl := w_ne hnx hrl (by simp)
  obtain ⟨w1, w2, w3, w4, w5⟩ := w0
  have hnb := b.2.1
  intro m
  induction m with
  | zero => intro e F X g1 V1 h1 h2 hm hg q0 v1 v2 x1 x2 x3 best oth fr; omega
  | succ m ih =>
    intro e F X g1 V1 h1 h2 hm hg q0 v1 v2 x1 x2 x3 best oth fr
    refine Wp_iload_n dX1_findFewest_17 rfl 0 rfl ?_
    refine Wp_aload_n dX1_findFewest_18 rfl 2 rfl ?_
    refine Wp_get (x := (nI (n))) fk_X1_42 hC rfl (show V1 ct 5 = nI n by rw [fr ct n_ct_rp n_ct_rt n_ct_rl n_ct_fw n_ct_nx]; exact w1) dX1_findFewest_19 ?_
    refine Wp_icmp_gt (tgt := 95) dX1_findFewest_22 (by decide) (nI_toInt (by omega)) (nI_toInt (by omega)) (fun c_22 => ?_) (fun c_22 => ?_)
    · refine Wp_iload_n dX1_findFewest_95 rfl 1 rfl ?_
      exact Wp_zret (b := true) rfl rfl ⟨rfl, rfl, _, rfl, by
      have lX : (law pl ln lt row) i X = true := by
        unfold law
        cases q : hRw pl ln lt row (X - i) i h0H with
        | some w => rfl
        | none => have := hRw_mono q (e - 1 - X); rw [show X - i + (e - 1 - X) = e - 1 - i by omega, hg] at this; cases this
      have l1 : (law pl ln lt row) i (i + 1) = true := law_mono lX (by omega) (by omega)
      rw [l1]
      exact ⟨rfl, fun _ => ⟨F, X, v1, v2, x1, by omega, lX, x3, fun q hq1 hq2 hq3 => best q hq1 (by omega)⟩, oth, fr⟩⟩ (Nat.le_refl _) (Nat.le_refl _) dX1_findFewest_96
    · have b1 : BK V1 h k nb ln lt := b.of (fr h n_h_rp n_h_rt n_h_rl n_h_fw n_h_nx) (fr k n_k_rp n_k_rt n_k_rl n_k_fw n_k_nx)
      have hsn := hRw_snoc (room := pl) (ln := ln) (lt := lt) (row := row) (e - 1 - i) i h0H
      rw [show e - 1 - i + 1 = e - i by omega, hg, show i + (e - 1 - i) = e - 1 by omega] at hsn
      have hsn : hRw pl ln lt row (e - i) i h0H = hCode pl ln lt (row (e - 1)) g1 := hsn
      refine Wp_aload_n dX1_findFewest_25 rfl 2 rfl ?_
      refine Wp_getr fk_X1_18 hC rfl dX1_findFewest_26 ?_
      refine Wp_aload_n dX1_findFewest_29 rfl 2 rfl ?_
      refine Wp_getr fk_X1_31 hC rfl dX1_findFewest_30 ?_
      refine Wp_aload_n dX1_findFewest_33 rfl 2 rfl ?_
      refine Wp_getr fk_X1_22 hC rfl dX1_findFewest_34 ?_
      refine Wp_iload_n dX1_findFewest_37 rfl 0 rfl ?_
      refine Wp_iconst (v := (nI (1))) dX1_findFewest_38 (by decide) ?_
      refine Wp_isub (z := (nI ((e - 1)))) dX1_findFewest_39 (pk_sub (by omega)) ?_
      refine Wp_ild (n := (e - 1)) (y := (nI (row (e - 1)))) hrw rfl (by omega) (by decide) (show V1 rw (e - 1) = nI (row (e - 1)) by rw [fr rw n_rw_rp n_rw_rt n_rw_rl n_rw_fw n_rw_nx]; exact (w5 (e - 1) (by omega)).1) dX1_findFewest_40 ?_
      refine Wp_callVi (c_X4_addCode hP hrt hrl hB hk q0 b1 hrr (w5 (e - 1) (by omega)).2) YV_X4_addCode ml_X1_64 hP rfl dX1_findFewest_41 (by omega) (by decide) (by omega) (by omega) rfl rfl (Nat.le_of_ble_eq_true rfl) (fun r7 V7 hr7 => ?_)
      obtain ⟨e7, p7, fr7⟩ := hr7
      subst e7
      refine Wp_ifeq_b (tgt := 95) dX1_findFewest_44 (by decide) (fun c_44 => ?_) (fun c_44 => ?_)
      · refine Wp_iload_n dX1_findFewest_95 rfl 1 rfl ?_
        exact Wp_zret (b := true) rfl rfl ⟨rfl, rfl, _, rfl, by
      have lX : (law pl ln lt row) i X = true := by
        unfold law
        cases q : hRw pl ln lt row (X - i) i h0H with
        | some w => rfl
        | none => have := hRw_mono q (e - 1 - X); rw [show X - i + (e - 1 - X) = e - 1 - i by omega, hg] at this; cases this
      have l1 : (law pl ln lt row) i (i + 1) = true := law_mono lX (by omega) (by omega)
      rw [l1]
      exact ⟨rfl, fun _ => ⟨F, X, by rw [fr7 fw n_fw_rp n_fw_rt n_fw_rl]; exact v1, by rw [fr7 nx n_nx_rp n_nx_rt n_nx_rl]; exact v2, x1, by omega, lX, x3, fun q hq1 hq2 hq3 => by
        have hno : hRw pl ln lt row (e - i) i h0H = none := by
          rw [hsn]
          cases z : hCode pl ln lt (row (e - 1)) g1 with
          | none => rfl
          | some w => rw [z] at c_44; cases c_44
        have hqe : q < e := by
          rcases Nat.lt_or_ge q e with z | z
          · exact z
          · have := hRw_mono hno (q - e); rw [show e - i + (q - e) = q - i by omega] at this; unfold law at hq3; rw [this] at hq3; cases hq3
        exact best q hq1 hqe⟩, fun q hq => by rw [fr7 fw n_fw_rp n_fw_rt n_fw_rl, fr7 nx n_nx_rp n_nx_rt n_nx_rl]; exact oth q hq, fun j a1 a2 a3 a4 a5 => by rw [fr7 j a1 a2 a3, fr j a1 a2 a3 a4 a5]⟩⟩ (Nat.le_refl _) (Nat.le_refl _) dX1_findFewest_96
      · obtain ⟨g2, hg2⟩ := Option.isSome_iff_exists.mp c_44
        rw [hg2] at hsn
        have hfe := (hf e (by omega) (by omega)).2
        have hfX := (hf X (by omega) (by omega)).2
        refine Wp_aload_n dX1_findFewest_47 rfl 2 rfl ?_
        refine Wp_getr fk_X1_25 hC rfl dX1_findFewest_48 ?_
        refine Wp_iload_n dX1_findFewest_51 rfl 0 rfl ?_
        refine Wp_ild (n := e) (y := (nI (f e))) hfw rfl (by omega) (by decide) (show V7 fw e = nI (f e) by rw [fr7 fw n_fw_rp n_fw_rt n_fw_rl, (oth e (by omega)).1]; exact (hf e (by omega) (by omega)).1) dX1_findFewest_52 ?_
        refine Wp_iconst (v := (nI (1))) dX1_findFewest_53 (by decide) ?_
        refine Wp_iadd (z := (nI ((f e + 1)))) dX1_findFewest_54 (nI_add _ _) ?_
        refine Wp_istore (lv' := [(4, .int (nI ((f e + 1)))), (3, .int (nI (e))), (2, .int (nI (1))), (0, .ref (ad (ct))), (1, .int (nI (i)))]) dX1_findFewest_55 (by decide) rfl ?_
        refine Wp_iload_n dX1_findFewest_57 rfl 2 rfl ?_
        refine Wp_if_eq (tgt := 72) dX1_findFewest_58 (by decide) (nI_toInt (by omega)) (fun c_58 => absurd c_58 (by omega)) (fun c_58 => ?_)
        refine Wp_iload dX1_findFewest_61 0 rfl ?_
        refine Wp_aload_n dX1_findFewest_63 rfl 3 rfl ?_
        refine Wp_getr fk_X1_25 hC rfl dX1_findFewest_64 ?_
        refine Wp_iload_n dX1_findFewest_67 rfl 4 rfl ?_
        refine Wp_ild (n := i) (y := (nI (F))) hfw rfl (by omega) (by decide) (show V7 fw i = nI F by rw [fr7 fw n_fw_rp n_fw_rt n_fw_rl]; exact v1) dX1_findFewest_68 ?_
        refine Wp_icmp_gt (tgt := 89) dX1_findFewest_69 (by decide) (nI_toInt (by omega)) (nI_toInt (by omega)) (fun c_69 => ?_) (fun c_69 => ?_)
        · refine Wp_iinc (x := (nI ((e + 1)))) (lv' := [(3, .int (nI ((e + 1)))), (4, .int (nI ((f e + 1)))), (2, .int (nI (1))), (0, .ref (ad (ct))), (1, .int (nI (i)))]) dX1_findFewest_89 1 rfl (w_inc1 _) (by decide) rfl ?_
          refine Wp_goto (tgt := 17) dX1_findFewest_92 (by decide) ?_
          refine Wp_lv (lv2 := [(3, .int (nI (e + 1))), (2, .int (nI 1)), (0, .ref (ad ct)), (1, .int (nI i))]) [0, 2, 3, 4] rfl ?_
          exact ih (e + 1) F X g2 V7 (by omega) (by omega) (by omega) hsn (p7 g2 hg2) (by rw [fr7 fw n_fw_rp n_fw_rt n_fw_rl]; exact v1) (by rw [fr7 nx n_nx_rp n_nx_rt n_nx_rl]; exact v2) x1 (by omega) x3 (fun q a1 a2 => by
            rcases Nat.lt_or_ge q e with z | z
            · exact best q a1 z
            · rw [show q = e by omega]; omega) (fun q hq => by rw [fr7 fw n_fw_rp n_fw_rt n_fw_rl, fr7 nx n_nx_rp n_nx_rt n_nx_rl]; exact oth q hq) (fun j a1 a2 a3 a4 a5 => by rw [fr7 j a1 a2 a3, fr j a1 a2 a3 a4 a5])
        · refine Wp_aload_n dX1_findFewest_72 rfl 3 rfl ?_
          refine Wp_getr fk_X1_25 hC rfl dX1_findFewest_73 ?_
          refine Wp_iload_n dX1_findFewest_76 rfl 4 rfl ?_
          refine Wp_iload dX1_findFewest_77 0 rfl ?_
          refine Wp_ist (n := i) hfw rfl (by omega) (by decide) dX1_findFewest_79 ?_
          refine Wp_aload_n dX1_findFewest_80 rfl 3 rfl ?_
          refine Wp_getr fk_X1_28 hC rfl dX1_findFewest_81 ?_
          refine Wp_iload_n dX1_findFewest_84 rfl 4 rfl ?_
          refine Wp_iload_n dX1_findFewest_85 rfl 1 rfl ?_
          refine Wp_ist (n := i) hnx rfl (by omega) (by decide) dX1_findFewest_86 ?_
          refine Wp_iconst (v := (nI (1))) dX1_findFewest_87 (by decide) ?_
          refine Wp_istore_n (lv' := [(2, .int (nI (1))), (4, .int (nI ((f e + 1)))), (3, .int (nI (e))), (0, .ref (ad (ct))), (1, .int (nI (i)))]) dX1_findFewest_88 rfl (by decide) rfl ?_
          refine Wp_iinc (x := (nI ((e + 1)))) (lv' := [(3, .int (nI ((e + 1)))), (2, .int (nI (1))), (4, .int (nI ((f e + 1)))), (0, .ref (ad (ct))), (1, .int (nI (i)))]) dX1_findFewest_89 2 rfl (w_inc1 _) (by decide) rfl ?_
          refine Wp_goto (tgt := 17) dX1_findFewest_92 (by decide) ?_
          refine Wp_lv (lv2 := [(3, .int (nI (e + 1))), (2, .int (nI 1)), (0, .ref (ad ct)), (1, .int (nI i))]) [0, 1, 3, 4] rfl ?_
          exact ih (e + 1) (f e + 1) e g2 _ (by omega) (by omega) (by omega) hsn ((p7 g2 hg2).of (by simp [up2, Ne.symm n_fw_rp, Ne.symm n_nx_rp]) (by simp [up2, Ne.symm n_fw_rt, Ne.symm n_nx_rt]) (by simp [up2, Ne.symm n_fw_rl, Ne.symm n_nx_rl])) (by rw [up2_i hfn, up2_s]) (by rw [up2_s]) (by omega) (by omega) rfl (fun q a1 a2 => by
            rcases Nat.lt_or_ge q e with z | z
            · have := best q a1 z; omega
            · rw [show q = e by omega]; omega) (fun q hq => by rw [up2_k hq, up2_k hq, up2_k hq, up2_k hq, fr7 fw n_fw_rp n_fw_rt n_fw_rl, fr7 nx n_nx_rp n_nx_rt n_nx_rl]; exact oth q hq) (fun j a1 a2 a3 a4 a5 => by rw [← fr j a1 a2 a3 a4 a5, ← fr7 j a1 a2 a3]; simp [up2, a4, a5])
theorem c_X1_findFewest {E : wE} {S : List wK} {ad : Nat → Nat} {V : wV} {ct ss rp rw h fw nx rt rl c z k : Nat} (hC : S[ct]? = some (.inl (1, [none, none, some (some ss), some (some rp), some (some rw), none, none, some (some h), some (some fw), some (some nx)]))) (hP : S[rp]? = some (.inl (4, [some (some rt), none, none, some (some rl), none, none, none]))) (hrt : S[rt]? = some (.inr (.inl (false, 7)))) (hrl : S[rl]? = some (.inr (.inl (false, 7)))) (hrw : S[rw]? = some (.inr (.inl (false, 8)))) (hfw : S[fw]? = some (.inr (.inl (false, 9)))) (hnx : S[nx]? = some (.inr (.inl (false, 9)))) (hB : S[h]? = some (.inl (0, [some (some c), some (some z), some (some k), none, none]))) (hk : S[k]? = some (.inr (.inl (false, 10)))) {nb : Nat} {ln : Nat → Nat} {lt : Nat → Nat → Nat} (b : BK V h k nb ln lt) {n pl : Nat} {row : Nat → Nat} (w0 : RW V ct rw n pl nb row) (hrr : rt ≠ rl) (hfn : fw ≠ nx) {f : Nat → Nat} {i : Nat} (hi : i < n) (hf : ∀ e, i < e → e ≤ n → V fw e = nI (f e) ∧ f e ≤ n - e)  : w_C E mX1_findFewest (w_R 3 0 0) 0 0 [.ref (ad (ct)), .int (nI (i))] S ad V (w_i S ad (fun r V' => r = bI ((law pl ln lt row) i (i + 1)) ∧ ((law pl ln lt row) i (i + 1) = true → ∃ F X, V' fw i = nI F ∧ V' nx i = nI X ∧ BEST (law pl ln lt row) f n i F X) ∧ (∀ q, q ≠ i → V' fw q = V fw q ∧ V' nx q = V nx q) ∧ ∀ j, j ≠ rp → j ≠ rt → j ≠ rl → j ≠ fw → j ≠ nx → V' j = V j)) := by
  refine w_C.of (by decide) (Nat.le_of_ble_eq_true rfl) ?_
  show Wp _ _ _ _ _ _ _ _ _ [(0, .ref (ad (ct))), (1, .int (nI (i)))] [] S ad V
  have n_ct_rp : ct ≠ rp := w_ne hC hP (by simp)
  have n_ct_rt : ct ≠ rt := w_ne hC hrt (by simp)
  have n_ct_rl : ct ≠ rl := w_ne hC hrl (by simp)
  have n_ct_fw : ct ≠ fw := w_ne hC hfw (by simp)
  have n_ct_nx : ct ≠ nx := w_ne hC hnx (by simp)
  have n_rw_rp : rw ≠ rp := w_ne hrw hP (by simp)
  have n_rw_rt : rw ≠ rt := w_ne hrw hrt (by simp)
  have n_rw_rl : rw ≠ rl := w_ne hrw hrl (by simp)
  have n_rw_fw : rw ≠ fw := w_ne hrw hfw (by simp)
  have n_rw_nx : rw ≠ nx := w_ne hrw hnx (by simp)
  have n_h_rp : h ≠ rp := w_ne hB hP (by simp)
  have n_h_rt : h ≠ rt := w_ne hB hrt (by simp)
  have n_h_rl : h ≠ rl := w_ne hB hrl (by simp)
  have n_h_fw : h ≠ fw := w_ne hB hfw (by simp)
  have n_h_nx : h ≠ nx := w_ne hB hnx (by simp)
  have n_k_rp : k ≠ rp := w_ne hk hP (by simp)
  have n_k_rt : k ≠ rt := w_ne hk hrt (by simp)
  have n_k_rl : k ≠ rl := w_ne hk hrl (by simp)
  have n_k_fw : k ≠ fw := w_ne hk hfw (by simp)
  have n_k_nx : k ≠ nx := w_ne hk hnx (by simp)
  have n_fw_rp : fw ≠ rp := w_ne hfw hP (by simp)
  have n_fw_rt : fw ≠ rt := w_ne hfw hrt (by simp)
  have n_fw_rl : fw ≠ rl := w_ne hfw hrl (by simp)
  have n_nx_rp : nx ≠ rp := w_ne hnx hP (by simp)
  have n_nx_rt : nx ≠ rt := w_ne hnx hrt (by simp)
  have n_nx_rl : nx ≠ rl := w_ne hnx hrl (by simp)
  have ww := w0
  obtain ⟨w1, w2, w3, w4, w5⟩ := w0
  have hnb := b.2.1
  have hl1 : (law pl ln lt row) i (i + 1) = (hCode pl ln lt (row i) h0H).isSome := by
    unfold law; rw [show i + 1 - i = 1 by omega]
    show ((hCode pl ln lt (row i) h0H).bind _).isSome = _
    cases hCode pl ln lt (row i) h0H <;> rfl
  refine Wp_iconst (v := (nI (0))) dX1_findFewest_0 (by decide) ?_
  refine Wp_istore_n (lv' := [(2, .int (nI (0))), (0, .ref (ad (ct))), (1, .int (nI (i)))]) dX1_findFewest_1 rfl (by decide) rfl ?_
  refine Wp_aload_n dX1_findFewest_2 rfl 1 rfl ?_
  refine Wp_getr fk_X1_18 hC rfl dX1_findFewest_3 ?_
  refine Wp_aload_n dX1_findFewest_6 rfl 1 rfl ?_
  refine Wp_get (x := (nI (pl))) fk_X1_41 hC rfl w2 dX1_findFewest_7 ?_
  refine Wp_callVv (c_X4_begin hP (rt := rt) (rl := rl) w4) YV_X4_begin ml_X1_60 hP rfl dX1_findFewest_10 (by omega) (by decide) (by omega) (by omega) rfl rfl (Nat.le_of_ble_eq_true rfl) (fun V1 hV1 => ?_)
  obtain ⟨q1, fr1⟩ := hV1
  have b1 : BK V1 h k nb ln lt := b.of (fr1 h n_h_rp) (fr1 k n_k_rp)
  refine Wp_iload_n dX1_findFewest_13 rfl 2 rfl ?_
  refine Wp_iconst (v := (nI (1))) dX1_findFewest_14 (by decide) ?_
  refine Wp_iadd (z := (nI ((i + 1)))) dX1_findFewest_15 (nI_add _ _) ?_
  refine Wp_istore_n (lv' := [(3, .int (nI ((i + 1)))), (2, .int (nI (0))), (0, .ref (ad (ct))), (1, .int (nI (i)))]) dX1_findFewest_16 rfl (by decide) rfl ?_
  refine Wp_iload_n dX1_findFewest_17 rfl 0 rfl ?_
  refine Wp_aload_n dX1_findFewest_18 rfl 2 rfl ?_
  refine Wp_get (x := (nI (n))) fk_X1_42 hC rfl (show V1 ct 5 = nI n by rw [fr1 ct n_ct_rp]; exact w1) dX1_findFewest_19 ?_
  refine Wp_icmp_gt (tgt := 95) dX1_findFewest_22 (by decide) (nI_toInt (by omega)) (nI_toInt (by omega)) (fun c_22 => absurd c_22 (by omega)) (fun c_22 => ?_)
  refine Wp_aload_n dX1_findFewest_25 rfl 2 rfl ?_
  refine Wp_getr fk_X1_18 hC rfl dX1_findFewest_26 ?_
  refine Wp_aload_n dX1_findFewest_29 rfl 2 rfl ?_
  refine Wp_getr fk_X1_31 hC rfl dX1_findFewest_30 ?_
  refine Wp_aload_n dX1_findFewest_33 rfl 2 rfl ?_
  refine Wp_getr fk_X1_22 hC rfl dX1_findFewest_34 ?_
  refine Wp_iload_n dX1_findFewest_37 rfl 0 rfl ?_
  refine Wp_iconst (v := (nI (1))) dX1_findFewest_38 (by decide) ?_
  refine Wp_isub (z := (nI (((i + 1) - 1)))) dX1_findFewest_39 (pk_sub (by omega)) ?_
  refine Wp_ild (n := i) (y := (nI (row i))) hrw (by congr 1) (by omega) (by decide) (show V1 rw i = nI (row i) by rw [fr1 rw n_rw_rp]; exact (w5 i (by omega)).1) dX1_findFewest_40 ?_
  refine Wp_callVi (c_X4_addCode hP hrt hrl hB hk q1 b1 hrr (w5 i (by omega)).2) YV_X4_addCode ml_X1_64 hP rfl dX1_findFewest_41 (by omega) (by decide) (by omega) (by omega) rfl rfl (Nat.le_of_ble_eq_true rfl) (fun r7 V7 hr7 => ?_)
  obtain ⟨e7, p7, fr7⟩ := hr7
  subst e7
  rw [← hl1]
  refine Wp_ifeq_b (tgt := 95) dX1_findFewest_44 (by decide) (fun c_44 => ?_) (fun c_44 => ?_)
  · refine Wp_iload_n dX1_findFewest_95 rfl 1 rfl ?_
    exact Wp_zret (b := false) rfl rfl ⟨rfl, rfl, _, rfl, by
    rw [c_44]
    exact ⟨rfl, fun w => (by cases w), fun q hq => by rw [fr7 fw n_fw_rp n_fw_rt n_fw_rl, fr7 nx n_nx_rp n_nx_rt n_nx_rl, fr1 fw n_fw_rp, fr1 nx n_nx_rp]; exact ⟨rfl, rfl⟩, fun j a1 a2 a3 a4 a5 => by rw [fr7 j a1 a2 a3, fr1 j a1]⟩⟩ (Nat.le_refl _) (Nat.le_refl _) dX1_findFewest_96
  · rw [hl1] at c_44
    obtain ⟨g2, hg2⟩ := Option.isSome_iff_exists.mp c_44
    refine Wp_aload_n dX1_findFewest_47 rfl 2 rfl ?_
    refine Wp_getr fk_X1_25 hC rfl dX1_findFewest_48 ?_
    refine Wp_iload_n dX1_findFewest_51 rfl 0 rfl ?_
    refine Wp_ild (n := (i + 1)) (y := (nI (f (i + 1)))) hfw rfl (by omega) (by decide) (show V7 fw (i + 1) = nI (f (i + 1)) by rw [fr7 fw n_fw_rp n_fw_rt n_fw_rl, fr1 fw n_fw_rp]; exact (hf (i + 1) (by omega) (by omega)).1) dX1_findFewest_52 ?_
    refine Wp_iconst (v := (nI (1))) dX1_findFewest_53 (by decide) ?_
    refine Wp_iadd (z := (nI ((f (i + 1) + 1)))) dX1_findFewest_54 (nI_add _ _) ?_
    refine Wp_istore (lv' := [(4, .int (nI ((f (i + 1) + 1)))), (3, .int (nI ((i + 1)))), (2, .int (nI (0))), (0, .ref (ad (ct))), (1, .int (nI (i)))]) dX1_findFewest_55 (by decide) rfl ?_
    refine Wp_iload_n dX1_findFewest_57 rfl 2 rfl ?_
    refine Wp_if_eq (tgt := 72) dX1_findFewest_58 (by decide) (nI_toInt (by omega)) (fun c_58 => ?_) (fun c_58 => absurd c_58 (by omega))
    refine Wp_aload_n dX1_findFewest_72 rfl 3 rfl ?_
    refine Wp_getr fk_X1_25 hC rfl dX1_findFewest_73 ?_
    refine Wp_iload_n dX1_findFewest_76 rfl 4 rfl ?_
    refine Wp_iload dX1_findFewest_77 0 rfl ?_
    refine Wp_ist (n := i) hfw rfl (by omega) (by decide) dX1_findFewest_79 ?_
    refine Wp_aload_n dX1_findFewest_80 rfl 3 rfl ?_
    refine Wp_getr fk_X1_28 hC rfl dX1_findFewest_81 ?_
    refine Wp_iload_n dX1_findFewest_84 rfl 4 rfl ?_
    refine Wp_iload_n dX1_findFewest_85 rfl 1 rfl ?_
    refine Wp_ist (n := i) hnx rfl (by omega) (by decide) dX1_findFewest_86 ?_
    refine Wp_iconst (v := (nI (1))) dX1_findFewest_87 (by decide) ?_
    refine Wp_istore_n (lv' := [(2, .int (nI (1))), (4, .int (nI ((f (i + 1) + 1)))), (3, .int (nI ((i + 1)))), (0, .ref (ad (ct))), (1, .int (nI (i)))]) dX1_findFewest_88 rfl (by decide) rfl ?_
    refine Wp_iinc (x := nI (i + 1 + 1)) (lv' := [(3, .int (nI (i + 1 + 1))), (2, .int (nI (1))), (4, .int (nI ((f (i + 1) + 1)))), (0, .ref (ad (ct))), (1, .int (nI (i)))]) dX1_findFewest_89 2 rfl (w_inc1 _) (by decide) rfl ?_
    refine Wp_goto (tgt := 17) dX1_findFewest_92 (by decide) ?_
    refine Wp_lv (lv2 := [(3, .int (nI (i + 1 + 1))), (2, .int (nI 1)), (0, .ref (ad ct)), (1, .int (nI i))]) [0, 1, 3, 4] rfl ?_
    exact lp_X1_findFewest hC hP hrt hrl hrw hfw hnx hB hk b ww hrr hfn hi hf (n + 2) (i + 1 + 1) (f (i + 1) + 1) (i + 1) g2 _ (by omega) (by omega) (by omega) (by rw [show i + 1 + 1 - 1 - i = 1 by omega]; show (hCode pl ln lt (row i) h0H).bind _ = _; rw [hg2]; rfl) ((p7 g2 hg2).of (by simp [up2, Ne.symm n_fw_rp, Ne.symm n_nx_rp]) (by simp [up2, Ne.symm n_fw_rt, Ne.symm n_nx_rt]) (by simp [up2, Ne.symm n_fw_rl, Ne.symm n_nx_rl])) (by rw [up2_i hfn, up2_s]) (by rw [up2_s]) (by omega) (by omega) rfl (fun q a1 a2 => by rw [show q = i + 1 by omega]; omega) (fun q hq => by rw [up2_k hq, up2_k hq, up2_k hq, up2_k hq, fr7 fw n_fw_rp n_fw_rt n_fw_rl, fr7 nx n_nx_rp n_nx_rt n_nx_rl, fr1 fw n_fw_rp, fr1 nx n_nx_rp]; exact ⟨rfl, rfl⟩) (fun j a1 a2 a3 a4 a5 => by rw [← fr1 j a1, ← fr7 j a1 a2 a3]; simp [up2, a4, a5])
end
section
/-! THE CUT: made -/
theorem w_C_av {E : wE} {M : wM} {R : Room} {mc ms : Nat} {av av2 : List Value} {S : List wK} {ad : Nat → Nat} {V : wV} {Q : wQ} (C : w_C E M R mc ms av S ad V Q) (h : av = av2) : w_C E M R mc ms av2 S ad V Q := h ▸ C
theorem bI_fits (b : Bool) : fits .boolean (.int (bI b)) = true := by cases b <;> rfl
def pI (q : Nat) : Int32 := nI q - nI 1
theorem pI_s (q : Nat) : pI (q + 1) = nI q := nI_pred q
theorem pI_toInt {q : Nat} (h : q < 2 ^ 30) : (pI q).toInt = (q : Int) - 1 := pk_sub_toInt h (by omega)
theorem pI_dec {q : Nat} (h : 0 < q) : pI q + Int32.ofInt (-1) = pI (q - 1) := by
  obtain ⟨r, rfl⟩ : ∃ r, q = r + 1 := ⟨q - 1, by omega⟩
  rw [pI_s, show r + 1 - 1 = r by omega]
  unfold pI
  rw [Int32.sub_eq_add_neg]
  rfl
theorem BEST_congr {lw : Nat → Nat → Bool} {f g : Nat → Nat} {n i F X : Nat} (h : BEST lw f n i F X) (hfg : ∀ e, i < e → e ≤ n → f e = g e) : BEST lw g n i F X := by
  obtain ⟨h1, h2, h3, h4, h5⟩ := h
  refine ⟨h1, h2, h3, by rw [h4, hfg X h1 h2], fun e a1 a2 a3 => ?_⟩
  rw [← hfg e a1 a2]; exact h5 e a1 a2 a3
def DPS (lw : Nat → Nat → Bool) (n H : Nat) (st : Nat → Nat) : Prop := ∃ f nx : Nat → Nat, f n = 0 ∧ (∀ i, i < n → BEST lw f n i (f i) (nx i)) ∧ st 0 = 0 ∧ st H = n ∧ ∀ k, k < H → st k < n ∧ st (k + 1) = nx (st k)
def MADE (lw : Nat → Nat → Bool) (n : Nat) : Bool := decide (∀ i, i < n → lw i (i + 1) = true)
/-- what the cut holds -/
def CT (V : wV) (ct ss rw pl n nb : Nat) (row : Nat → Nat) (lw : Nat → Nat → Bool) (md : Bool) (H : Nat) (st : Nat → Nat) : Prop := V ct 0 = bI md ∧ V ct 1 = nI H ∧ RW V ct rw n pl nb row ∧ H ≤ 8 ∧ (md = true → ∀ k, k ≤ H → V ss k = nI (st k) ∧ st k ≤ n) ∧ md = MADE lw n ∧ (md = true → DPS lw n H st) ∧ (md = false → H = 0)
theorem DPS_lt {lw : Nat → Nat → Bool} {n H : Nat} {st : Nat → Nat} (h : DPS lw n H st) {k : Nat} (hk : k < H) : st k < st (k + 1) ∧ st (k + 1) ≤ n ∧ lw (st k) (st (k + 1)) = true := by
  obtain ⟨f, nx, h1, h2, h3, h4, h5⟩ := h
  have a := h5 k hk
  have b := h2 (st k) a.1
  rw [a.2]; exact ⟨b.1, b.2.1, b.2.2.1⟩
theorem lp_X1_make3 {E : wE} {S : List wK} {ad : Nat → Nat} {V : wV} {ct ss rp rw h fw nx rt rl c z k u a : Nat} (hC : S[ct]? = some (.inl (1, [none, none, some (some ss), some (some rp), some (some rw), none, none, some (some h), some (some fw), some (some nx)]))) (hss : S[ss]? = some (.inr (.inl (false, 9)))) (hrw : S[rw]? = some (.inr (.inl (false, 8)))) (hfw : S[fw]? = some (.inr (.inl (false, 9)))) (hnx : S[nx]? = some (.inr (.inl (false, 9)))) (hP : S[rp]? = some (.inl (4, [some (some rt), none, none, some (some rl), none, none, none]))) (hrt : S[rt]? = some (.inr (.inl (false, 7)))) (hrl : S[rl]? = some (.inr (.inl (false, 7)))) (hB : S[h]? = some (.inl (0, [some (some c), some (some z), some (some k), none, none]))) (hk : S[k]? = some (.inr (.inl (false, 10)))) (hU : S[u]? = some (.inl (6, [some (some a), none, none, none, none]))) (ha : S[a]? = some (.inr (.inl (false, 8)))) {nb : Nat} {ln : Nat → Nat} {lt : Nat → Nat → Nat} (b : BK V h k nb ln lt) (n1 : rt ≠ rl) (n2 : fw ≠ nx) (n3 : ss ≠ fw) (n4 : ss ≠ nx) (n5 : a ≠ rw) {ms : Nat → Nat} {len pl un ti go n : Nat} (g : SG V u a (ms, len, pl, un, ti)) (hl8 : len ≤ 8) (hp7 : pl ≤ 7) (hms : ∀ k, k < len → ms k < nb) (hn : (go < len ∧ n + 1 = len) ∨ (len ≤ go ∧ n = len)) {f nf : Nat → Nat} (hfn : f n = 0) (hbest : ∀ i, i < n → BEST (law pl ln lt (del ms go)) f n i (f i) (nf i)) (hmade : MADE (law pl ln lt (del ms go)) n = true)  : ∀ (m : Nat) (H : Nat) (st : Nat → Nat) (V4 : wV), H ≤ 8 → 8 < H + m → V4 ct 0 = nI 1 → V4 ct 1 = nI H → V4 ct 5 = nI n → V4 ct 6 = nI pl → (∀ j, j < n → V4 nx j = nI (nf j)) → (∀ q, q < n → V4 rw q = nI (del ms go q) ∧ del ms go q < nb) → (∀ k, k ≤ H → V4 ss k = nI (st k) ∧ st k ≤ n) → st 0 = 0 → (∀ k, k < H → st k < n ∧ st (k + 1) = nf (st k)) → H ≤ st H → st H ≤ n → (∀ j, j ≠ ct → j ≠ ss → j ≠ rw → j ≠ fw → j ≠ nx → j ≠ rp → j ≠ rt → j ≠ rl → V4 j = V j) → Wp E mX1_make (w_R 4 0 0) (w_v S ad (fun V' => (∃ md H st, CT V' ct ss rw pl n nb (del ms go) (law pl ln lt (del ms go)) md H st) ∧ ∀ j, j ≠ ct → j ≠ ss → j ≠ rw → j ≠ fw → j ≠ nx → j ≠ rp → j ≠ rt → j ≠ rl → V' j = V j)) 0 0 0 0 119 [(0, .ref (ad (ct)))] [] S ad V4 := by
  have hone : (1 : Nat) = 1 := rfl
  intro m
  induction m with
  | zero => intro H st V4 hH hm v0 v1 v5 v6 vnx vrw vss st0 stn hge hle fr; omega
  | succ m ih =>
    intro H st V4 hH hm v0 v1 v5 v6 vnx vrw vss st0 stn hge hle fr
    refine Wp_aload_n dX1_make_119 rfl 0 rfl ?_
    refine Wp_get (x := (nI (1))) fk_X1_49 hC rfl v0 dX1_make_120 ?_
    refine Wp_if_eq (tgt := 189) dX1_make_123 (by decide) (nI_toInt (by omega)) (fun c_123 => absurd c_123 (by omega)) (fun c_123 => ?_)
    refine Wp_aload_n dX1_make_126 rfl 0 rfl ?_
    refine Wp_get (x := (nI (H))) fk_X1_57 hC rfl v1 dX1_make_127 ?_
    refine Wp_bipush (v := (nI (8))) dX1_make_130 (by decide) ?_
    refine Wp_icmp_ge (tgt := 189) dX1_make_132 (by decide) (nI_toInt (by omega)) (nI_toInt (by omega)) (fun c_132 => ?_) (fun c_132 => ?_)
    · exact Wp_vret rfl ⟨rfl, rfl, rfl, ⟨⟨true, H, st, v0, v1, ⟨v5, v6, by omega, hp7, vrw⟩, hH, fun _ => vss, hmade.symm, fun _ => ⟨f, nf, hfn, hbest, st0, by omega, stn⟩, fun w => (by cases w)⟩, fr⟩⟩ (Nat.le_refl _) (Nat.le_refl _) dX1_make_189
    · refine Wp_aload_n dX1_make_135 rfl 0 rfl ?_
      refine Wp_getr fk_X1_9 hC rfl dX1_make_136 ?_
      refine Wp_aload_n dX1_make_139 rfl 0 rfl ?_
      refine Wp_get (x := (nI (H))) fk_X1_57 hC rfl v1 dX1_make_140 ?_
      refine Wp_ild (n := H) (y := (nI (st H))) hss rfl (by omega) (by decide) (vss H (by omega)).1 dX1_make_143 ?_
      refine Wp_aload_n dX1_make_144 rfl 0 rfl ?_
      refine Wp_get (x := (nI (n))) fk_X1_42 hC rfl v5 dX1_make_145 ?_
      refine Wp_icmp_ge (tgt := 189) dX1_make_148 (by decide) (nI_toInt (by omega)) (nI_toInt (by omega)) (fun c_148 => ?_) (fun c_148 => ?_)
      · exact Wp_vret rfl ⟨rfl, rfl, rfl, ⟨⟨true, H, st, v0, v1, ⟨v5, v6, by omega, hp7, vrw⟩, hH, fun _ => vss, hmade.symm, fun _ => ⟨f, nf, hfn, hbest, st0, by omega, stn⟩, fun w => (by cases w)⟩, fr⟩⟩ (Nat.le_refl _) (Nat.le_refl _) dX1_make_189
      · have hb := hbest (st H) (by omega)
        have hb1 := hb.1
        have hb2 := hb.2.1
        refine Wp_aload_n dX1_make_151 rfl 0 rfl ?_
        refine Wp_getr fk_X1_9 hC rfl dX1_make_152 ?_
        refine Wp_aload_n dX1_make_155 rfl 0 rfl ?_
        refine Wp_get (x := (nI (H))) fk_X1_57 hC rfl v1 dX1_make_156 ?_
        refine Wp_iconst (v := (nI (1))) dX1_make_159 (by decide) ?_
        refine Wp_iadd (z := (nI ((H + 1)))) dX1_make_160 (nI_add _ _) ?_
        refine Wp_aload_n dX1_make_161 rfl 0 rfl ?_
        refine Wp_getr fk_X1_28 hC rfl dX1_make_162 ?_
        refine Wp_aload_n dX1_make_165 rfl 0 rfl ?_
        refine Wp_getr fk_X1_9 hC rfl dX1_make_166 ?_
        refine Wp_aload_n dX1_make_169 rfl 0 rfl ?_
        refine Wp_get (x := (nI (H))) fk_X1_57 hC rfl v1 dX1_make_170 ?_
        refine Wp_ild (n := H) (y := (nI (st H))) hss rfl (by omega) (by decide) (vss H (by omega)).1 dX1_make_173 ?_
        refine Wp_ild (n := st H) (y := (nI (nf (st H)))) hnx rfl (by omega) (by decide) (vnx (st H) (by omega)) dX1_make_174 ?_
        refine Wp_ist (n := (H + 1)) hss rfl (by omega) (by decide) dX1_make_175 ?_
        refine Wp_aload_n dX1_make_176 rfl 0 rfl ?_
        refine Wp_dup dX1_make_177 rfl ?_
        refine Wp_get (x := (nI (H))) fk_X1_57 hC rfl ((up2_i (w_ne hC hss (by simp))).trans v1) dX1_make_178 ?_
        refine Wp_iconst (v := (nI (1))) dX1_make_181 (by decide) ?_
        refine Wp_iadd (z := (nI ((H + 1)))) dX1_make_182 (nI_add _ _) ?_
        refine Wp_put fk_X1_57 hC rfl rfl rfl dX1_make_183 ?_
        refine Wp_goto (tgt := 119) dX1_make_186 (by decide) ?_
        exact ih (H + 1) (va_up st (H + 1) (nf (st H))) _ (by omega) (by omega) (by simp [up2, upd, (w_ne hC hss (by simp))]; exact v0) (by rw [up2_s]) (by simp [up2, upd, (w_ne hC hss (by simp))]; exact v5) (by simp [up2, upd, (w_ne hC hss (by simp))]; exact v6) (fun j hj => by simp [up2, (w_ne hnx hC (by simp)), Ne.symm n4]; exact vnx j hj) (fun q hq => by simp [up2, (w_ne hrw hC (by simp)), (w_ne hrw hss (by simp))]; exact vrw q hq) (fun k hk => by
          rw [up2_i (w_ne hss hC (by simp))]
          by_cases z : k = H + 1
          · subst z; rw [up2_s]; simp [va_up]; omega
          · rw [up2_k z]; simp only [va_up, if_neg z]; exact vss k (by omega)) (by simp [va_up, st0]) (fun k hk => by
          by_cases z : k = H
          · subst z; simp [va_up]; omega
          · simp only [va_up, if_neg (show ¬ k = H + 1 by omega), if_neg (show ¬ k + 1 = H + 1 by omega)]; exact stn k (by omega)) (by simp [va_up]; omega) (by simp [va_up]; omega) (fun j a1 a2 a3 a4 a5 a6 a7 a8 => by rw [← fr j a1 a2 a3 a4 a5 a6 a7 a8]; simp [up2, a1, a2])
theorem tl_X1_make_yes {E : wE} {S : List wK} {ad : Nat → Nat} {V : wV} {ct ss rp rw h fw nx rt rl c z k u a : Nat} (hC : S[ct]? = some (.inl (1, [none, none, some (some ss), some (some rp), some (some rw), none, none, some (some h), some (some fw), some (some nx)]))) (hss : S[ss]? = some (.inr (.inl (false, 9)))) (hrw : S[rw]? = some (.inr (.inl (false, 8)))) (hfw : S[fw]? = some (.inr (.inl (false, 9)))) (hnx : S[nx]? = some (.inr (.inl (false, 9)))) (hP : S[rp]? = some (.inl (4, [some (some rt), none, none, some (some rl), none, none, none]))) (hrt : S[rt]? = some (.inr (.inl (false, 7)))) (hrl : S[rl]? = some (.inr (.inl (false, 7)))) (hB : S[h]? = some (.inl (0, [some (some c), some (some z), some (some k), none, none]))) (hk : S[k]? = some (.inr (.inl (false, 10)))) (hU : S[u]? = some (.inl (6, [some (some a), none, none, none, none]))) (ha : S[a]? = some (.inr (.inl (false, 8)))) {nb : Nat} {ln : Nat → Nat} {lt : Nat → Nat → Nat} (b : BK V h k nb ln lt) (n1 : rt ≠ rl) (n2 : fw ≠ nx) (n3 : ss ≠ fw) (n4 : ss ≠ nx) (n5 : a ≠ rw) {ms : Nat → Nat} {len pl un ti go n : Nat} (g : SG V u a (ms, len, pl, un, ti)) (hl8 : len ≤ 8) (hp7 : pl ≤ 7) (hms : ∀ k, k < len → ms k < nb) (hn : (go < len ∧ n + 1 = len) ∨ (len ≤ go ∧ n = len)) {f nf : Nat → Nat} (hfn : f n = 0) (hbest : ∀ i, i < n → BEST (law pl ln lt (del ms go)) f n i (f i) (nf i)) (hmade : MADE (law pl ln lt (del ms go)) n = true)  {V3 : wV} (v0 : V3 ct 0 = nI 1) (v5 : V3 ct 5 = nI n) (v6 : V3 ct 6 = nI pl) (vnx : ∀ j, j < n → V3 nx j = nI (nf j)) (vrw : ∀ q, q < n → V3 rw q = nI (del ms go q) ∧ del ms go q < nb) (fr : ∀ j, j ≠ ct → j ≠ ss → j ≠ rw → j ≠ fw → j ≠ nx → j ≠ rp → j ≠ rt → j ≠ rl → V3 j = V j) : Wp E mX1_make (w_R 4 0 0) (w_v S ad (fun V' => (∃ md H st, CT V' ct ss rw pl n nb (del ms go) (law pl ln lt (del ms go)) md H st) ∧ ∀ j, j ≠ ct → j ≠ ss → j ≠ rw → j ≠ fw → j ≠ nx → j ≠ rp → j ≠ rt → j ≠ rl → V' j = V j)) 0 0 0 0 107 [(0, .ref (ad ct))] [] S ad V3 := by
  have hone : (1 : Nat) = 1 := rfl
  refine Wp_aload_n dX1_make_107 rfl 0 rfl ?_
  refine Wp_iconst (v := (nI (0))) dX1_make_108 (by decide) ?_
  refine Wp_put fk_X1_57 hC rfl rfl rfl dX1_make_109 ?_
  refine Wp_aload_n dX1_make_112 rfl 0 rfl ?_
  refine Wp_getr fk_X1_9 hC rfl dX1_make_113 ?_
  refine Wp_iconst (v := (nI (0))) dX1_make_116 (by decide) ?_
  refine Wp_iconst (v := (nI (0))) dX1_make_117 (by decide) ?_
  refine Wp_ist (n := 0) hss rfl (by omega) (by decide) dX1_make_118 ?_
  exact lp_X1_make3 hC hss hrw hfw hnx hP hrt hrl hB hk hU ha b n1 n2 n3 n4 n5 g hl8 hp7 hms hn hfn hbest hmade 9 0 (fun _ => 0) _ (by omega) (by omega) (by simp [up2, upd, (w_ne hC hss (by simp))]; exact v0) (by simp [up2, upd, (w_ne hC hss (by simp))]) (by simp [up2, upd, (w_ne hC hss (by simp))]; exact v5) (by simp [up2, upd, (w_ne hC hss (by simp))]; exact v6) (fun j hj => by simp [up2, (w_ne hnx hC (by simp)), Ne.symm n4]; exact vnx j hj) (fun q hq => by simp [up2, (w_ne hrw hC (by simp)), (w_ne hrw hss (by simp))]; exact vrw q hq) (fun k hk => by rw [show k = 0 by omega, up2_s]; exact ⟨rfl, Nat.zero_le _⟩) rfl (fun k hk => by omega) (by omega) (Nat.zero_le _) (fun j a1 a2 a3 a4 a5 a6 a7 a8 => by rw [← fr j a1 a2 a3 a4 a5 a6 a7 a8]; simp [up2, a1, a2])
theorem tl_X1_make_no {E : wE} {S : List wK} {ad : Nat → Nat} {V : wV} {ct ss rp rw h fw nx rt rl c z k u a : Nat} (hC : S[ct]? = some (.inl (1, [none, none, some (some ss), some (some rp), some (some rw), none, none, some (some h), some (some fw), some (some nx)]))) (hss : S[ss]? = some (.inr (.inl (false, 9)))) (hrw : S[rw]? = some (.inr (.inl (false, 8)))) (hfw : S[fw]? = some (.inr (.inl (false, 9)))) (hnx : S[nx]? = some (.inr (.inl (false, 9)))) (hP : S[rp]? = some (.inl (4, [some (some rt), none, none, some (some rl), none, none, none]))) (hrt : S[rt]? = some (.inr (.inl (false, 7)))) (hrl : S[rl]? = some (.inr (.inl (false, 7)))) (hB : S[h]? = some (.inl (0, [some (some c), some (some z), some (some k), none, none]))) (hk : S[k]? = some (.inr (.inl (false, 10)))) (hU : S[u]? = some (.inl (6, [some (some a), none, none, none, none]))) (ha : S[a]? = some (.inr (.inl (false, 8)))) {nb : Nat} {ln : Nat → Nat} {lt : Nat → Nat → Nat} (b : BK V h k nb ln lt) (n1 : rt ≠ rl) (n2 : fw ≠ nx) (n3 : ss ≠ fw) (n4 : ss ≠ nx) (n5 : a ≠ rw) {ms : Nat → Nat} {len pl un ti go n : Nat} (g : SG V u a (ms, len, pl, un, ti)) (hl8 : len ≤ 8) (hp7 : pl ≤ 7) (hms : ∀ k, k < len → ms k < nb) (hn : (go < len ∧ n + 1 = len) ∨ (len ≤ go ∧ n = len))  (hno : MADE (law pl ln lt (del ms go)) n = false) {V3 : wV} (v0 : V3 ct 0 = bI false) (v5 : V3 ct 5 = nI n) (v6 : V3 ct 6 = nI pl) (vrw : ∀ q, q < n → V3 rw q = nI (del ms go q) ∧ del ms go q < nb) (fr : ∀ j, j ≠ ct → j ≠ ss → j ≠ rw → j ≠ fw → j ≠ nx → j ≠ rp → j ≠ rt → j ≠ rl → V3 j = V j) : Wp E mX1_make (w_R 4 0 0) (w_v S ad (fun V' => (∃ md H st, CT V' ct ss rw pl n nb (del ms go) (law pl ln lt (del ms go)) md H st) ∧ ∀ j, j ≠ ct → j ≠ ss → j ≠ rw → j ≠ fw → j ≠ nx → j ≠ rp → j ≠ rt → j ≠ rl → V' j = V j)) 0 0 0 0 107 [(0, .ref (ad ct))] [] S ad V3 := by
  have hone : (1 : Nat) = 1 := rfl
  refine Wp_aload_n dX1_make_107 rfl 0 rfl ?_
  refine Wp_iconst (v := (nI (0))) dX1_make_108 (by decide) ?_
  refine Wp_put fk_X1_57 hC rfl rfl rfl dX1_make_109 ?_
  refine Wp_aload_n dX1_make_112 rfl 0 rfl ?_
  refine Wp_getr fk_X1_9 hC rfl dX1_make_113 ?_
  refine Wp_iconst (v := (nI (0))) dX1_make_116 (by decide) ?_
  refine Wp_iconst (v := (nI (0))) dX1_make_117 (by decide) ?_
  refine Wp_ist (n := 0) hss rfl (by omega) (by decide) dX1_make_118 ?_
  refine Wp_aload_n dX1_make_119 rfl 0 rfl ?_
  refine Wp_get (x := (bI (false))) fk_X1_49 hC rfl ((up2_i (w_ne hC hss (by simp))).trans ((up2_k (by decide)).trans v0)) dX1_make_120 ?_
  refine Wp_ifeq_b (tgt := 189) dX1_make_123 (by decide) (fun c_123 => ?_) (fun c_123 => absurd c_123 (by decide))
  exact Wp_vret rfl ⟨rfl, rfl, rfl, ⟨⟨false, 0, fun _ => 0, by simp [up2, upd, (w_ne hC hss (by simp))]; exact v0, by simp [up2, upd, (w_ne hC hss (by simp))], ⟨by simp [up2, upd, (w_ne hC hss (by simp))]; exact v5, by simp [up2, upd, (w_ne hC hss (by simp))]; exact v6, by omega, hp7, fun q hq => by simp [up2, (w_ne hrw hC (by simp)), (w_ne hrw hss (by simp))]; exact vrw q hq⟩, by omega, fun w => (by cases w), hno.symm, fun w => (by cases w), fun _ => rfl⟩, fun j a1 a2 a3 a4 a5 a6 a7 a8 => by rw [← fr j a1 a2 a3 a4 a5 a6 a7 a8]; simp [up2, a1, a2]⟩⟩ (Nat.le_refl _) (Nat.le_refl _) dX1_make_189
theorem lp_X1_make2 {E : wE} {S : List wK} {ad : Nat → Nat} {V : wV} {ct ss rp rw h fw nx rt rl c z k u a : Nat} (hC : S[ct]? = some (.inl (1, [none, none, some (some ss), some (some rp), some (some rw), none, none, some (some h), some (some fw), some (some nx)]))) (hss : S[ss]? = some (.inr (.inl (false, 9)))) (hrw : S[rw]? = some (.inr (.inl (false, 8)))) (hfw : S[fw]? = some (.inr (.inl (false, 9)))) (hnx : S[nx]? = some (.inr (.inl (false, 9)))) (hP : S[rp]? = some (.inl (4, [some (some rt), none, none, some (some rl), none, none, none]))) (hrt : S[rt]? = some (.inr (.inl (false, 7)))) (hrl : S[rl]? = some (.inr (.inl (false, 7)))) (hB : S[h]? = some (.inl (0, [some (some c), some (some z), some (some k), none, none]))) (hk : S[k]? = some (.inr (.inl (false, 10)))) (hU : S[u]? = some (.inl (6, [some (some a), none, none, none, none]))) (ha : S[a]? = some (.inr (.inl (false, 8)))) {nb : Nat} {ln : Nat → Nat} {lt : Nat → Nat → Nat} (b : BK V h k nb ln lt) (n1 : rt ≠ rl) (n2 : fw ≠ nx) (n3 : ss ≠ fw) (n4 : ss ≠ nx) (n5 : a ≠ rw) {ms : Nat → Nat} {len pl un ti go n : Nat} (g : SG V u a (ms, len, pl, un, ti)) (hl8 : len ≤ 8) (hp7 : pl ≤ 7) (hms : ∀ k, k < len → ms k < nb) (hn : (go < len ∧ n + 1 = len) ∨ (len ≤ go ∧ n = len)) {x : Int32} (hgo : ∀ i, i < len → ((i : Int) = x.toInt ↔ i = go))  : ∀ (m : Nat) (q : Nat) (f : Nat → Nat) (nf : Nat → Nat) (V2 : wV), q ≤ n → q < m → V2 ct 0 = nI 1 → RW V2 ct rw n pl nb (del ms go) → BK V2 h k nb ln lt → f n = 0 → (∀ e, q ≤ e → e ≤ n → V2 fw e = nI (f e) ∧ f e ≤ n - e) → (∀ j, q ≤ j → j < n → V2 nx j = nI (nf j) ∧ BEST (law pl ln lt (del ms go)) f n j (f j) (nf j) ∧ (law pl ln lt (del ms go)) j (j + 1) = true) → (∀ j, j ≠ ct → j ≠ ss → j ≠ rw → j ≠ fw → j ≠ nx → j ≠ rp → j ≠ rt → j ≠ rl → V2 j = V j) → Wp E mX1_make (w_R 4 0 0) (w_v S ad (fun V' => (∃ md H st, CT V' ct ss rw pl n nb (del ms go) (law pl ln lt (del ms go)) md H st) ∧ ∀ j, j ≠ ct → j ≠ ss → j ≠ rw → j ≠ fw → j ≠ nx → j ≠ rp → j ≠ rt → j ≠ rl → V' j = V j)) 0 0 0 0 81 [(3, .int (pI q)), (0, .ref (ad (ct))), (1, .ref (ad (u))), (2, .int (x))] [] S ad V2 := by
  have hone : (1 : Nat) = 1 := rfl
  intro m
  induction m with
  | zero => intro q f nf V2 hq hm v0 w2 b2 hf0 hfe hnn fr; omega
  | succ m ih =>
    intro q f nf V2 hq hm v0 w2 b2 hf0 hfe hnn fr
    refine Wp_iload_n dX1_make_81 rfl 0 rfl ?_
    refine Wp_if_lt (tgt := 107) dX1_make_82 (by decide) (pI_toInt (by omega)) (fun c_82 => ?_) (fun c_82 => ?_)
    · have hq0 : q = 0 := by omega
      subst hq0
      refine Wp_lv (lv2 := [(0, .ref (ad (ct)))]) [1] rfl ?_
      exact tl_X1_make_yes hC hss hrw hfw hnx hP hrt hrl hB hk hU ha b n1 n2 n3 n4 n5 g hl8 hp7 hms hn hf0 (fun i hi => (hnn i (Nat.zero_le i) hi).2.1) (decide_eq_true (fun i hi => (hnn i (Nat.zero_le i) hi).2.2)) v0 w2.1 w2.2.1 (fun j hj => (hnn j (Nat.zero_le j) hj).1) w2.2.2.2.2 fr
    · have ep : pI q = nI (q - 1) := by rw [← pI_s (q - 1), show q - 1 + 1 = q by omega]
      refine Wp_aload_n dX1_make_85 rfl 1 rfl ?_
      refine Wp_get (x := (nI (1))) fk_X1_49 hC rfl v0 dX1_make_86 ?_
      refine Wp_if_eq (tgt := 107) dX1_make_89 (by decide) (nI_toInt (by omega)) (fun c_89 => absurd c_89 (by omega)) (fun c_89 => ?_)
      refine Wp_aload_n dX1_make_92 rfl 1 rfl ?_
      refine Wp_aload_n dX1_make_93 rfl 1 rfl ?_
      refine Wp_iload_n dX1_make_94 rfl 0 rfl ?_
      refine Wp_callVi (w_C_av (av2 := [.ref (ad ct), .int (pI q)]) (c_X1_findFewest hC hP hrt hrl hrw hfw hnx hB hk b2 w2 n1 n2 (f := f) (i := q - 1) (by omega) (fun e a1 a2 => hfe e (by omega) a2)) (by rw [ep])) YV_X1_findFewest ml_X1_53 hC rfl dX1_make_95 (by omega) (by decide) (by omega) (by omega) rfl rfl (Nat.le_of_ble_eq_true rfl) (fun r7 V7 hr7 => ?_)
      obtain ⟨e7, p7, o7, fr7⟩ := hr7
      subst e7
      refine Wp_put fk_X1_49 hC rfl (bI_nar _) (bI_fits _) dX1_make_98 ?_
      refine Wp_iinc (x := ((pI q) + Int32.ofInt (-1))) (lv' := [(3, .int ((pI q) + Int32.ofInt (-1))), (0, .ref (ad (ct))), (1, .ref (ad (u))), (2, .int (x))]) dX1_make_101 0 rfl rfl (by decide) rfl ?_
      refine Wp_goto (tgt := 81) dX1_make_104 (by decide) ?_
      rw [pI_dec (show 0 < q by omega)]
      have w7 : RW V7 ct rw n pl nb (del ms go) := w2.of (fr7 ct (w_ne hC hP (by simp)) (w_ne hC hrt (by simp)) (w_ne hC hrl (by simp)) (w_ne hC hfw (by simp)) (w_ne hC hnx (by simp))) (fr7 rw (w_ne hrw hP (by simp)) (w_ne hrw hrt (by simp)) (w_ne hrw hrl (by simp)) (w_ne hrw hfw (by simp)) (w_ne hrw hnx (by simp)))
      have frn : ∀ x, ∀ j, j ≠ ct → j ≠ ss → j ≠ rw → j ≠ fw → j ≠ nx → j ≠ rp → j ≠ rt → j ≠ rl → up2 V7 ct 0 x j = V j := fun x j a1 a2 a3 a4 a5 a6 a7 a8 => by rw [← fr j a1 a2 a3 a4 a5 a6 a7 a8, ← fr7 j a6 a7 a8 a4 a5]; simp [up2, a1]
      cases hlw : (law pl ln lt (del ms go)) (q - 1) (q - 1 + 1) with
      | true =>
        obtain ⟨F, X, e1, e2, e3⟩ := p7 hlw
        refine Wp_lv (lv2 := [(3, .int (pI (q - 1))), (0, .ref (ad ct)), (1, .ref (ad u)), (2, .int x)]) [0, 1, 2, 3] rfl ?_
        have eF : ∀ e, q ≤ e → va_up f (q - 1) F e = f e := fun e he => by simp only [va_up, if_neg (show ¬ e = q - 1 by omega)]
        have eX : ∀ e, q ≤ e → va_up nf (q - 1) X e = nf e := fun e he => by simp only [va_up, if_neg (show ¬ e = q - 1 by omega)]
        have eF0 : va_up f (q - 1) F (q - 1) = F := by simp [va_up]
        have eX0 : va_up nf (q - 1) X (q - 1) = X := by simp [va_up]
        have hX := hfe X (by have := e3.1; omega) e3.2.1
        exact ih (q - 1) (va_up f (q - 1) F) (va_up nf (q - 1) X) _ (by omega) (by omega) (by rw [up2_s]; rfl) ⟨by rw [up2_k (by decide)]; exact w7.1, by rw [up2_k (by decide)]; exact w7.2.1, w7.2.2.1, w7.2.2.2.1, fun y hy => by rw [up2_i (w_ne hrw hC (by simp))]; exact w7.2.2.2.2 y hy⟩ ((b2.of (fr7 h (w_ne hB hP (by simp)) (w_ne hB hrt (by simp)) (w_ne hB hrl (by simp)) (w_ne hB hfw (by simp)) (w_ne hB hnx (by simp))) (fr7 k (w_ne hk hP (by simp)) (w_ne hk hrt (by simp)) (w_ne hk hrl (by simp)) (w_ne hk hfw (by simp)) (w_ne hk hnx (by simp)))).of (by simp [up2, (w_ne hB hC (by simp))]) (by simp [up2, (w_ne hk hC (by simp))])) (by rw [eF n hq]; exact hf0) (fun e a1 a2 => by
          rw [up2_i (w_ne hfw hC (by simp))]
          by_cases z : e = q - 1
          · subst z; rw [eF0, e1]; refine ⟨rfl, ?_⟩; have := e3.1; have := e3.2.2.2.1; omega
          · rw [eF e (by omega), (o7 e z).1]; exact hfe e (by omega) a2) (fun j a1 a2 => by
          rw [up2_i (w_ne hnx hC (by simp))]
          by_cases z : j = q - 1
          · subst z; rw [eX0, eF0]; exact ⟨e2, BEST_congr e3 (fun e c1 c2 => (eF e (by omega)).symm), hlw⟩
          · rw [eX j (by omega), eF j (by omega), (o7 j z).2]
            have := hnn j (by omega) a2
            exact ⟨this.1, BEST_congr this.2.1 (fun e c1 c2 => (eF e (by omega)).symm), this.2.2⟩) (frn _)
      | false =>
        have hno : MADE (law pl ln lt (del ms go)) n = false := decide_eq_false (fun w => by have := w (q - 1) (by omega); rw [hlw] at this; cases this)
        have w107 : Wp E mX1_make (w_R 4 0 0) (w_v S ad (fun V' => (∃ md H st, CT V' ct ss rw pl n nb (del ms go) (law pl ln lt (del ms go)) md H st) ∧ ∀ j, j ≠ ct → j ≠ ss → j ≠ rw → j ≠ fw → j ≠ nx → j ≠ rp → j ≠ rt → j ≠ rl → V' j = V j)) 0 0 0 0 107 [(3, .int (pI (q - 1))), (0, .ref (ad ct)), (1, .ref (ad u)), (2, .int x)] [] S ad (up2 V7 ct 0 (bI false)) := by
          refine Wp_lv (lv2 := [(0, .ref (ad ct))]) [1] rfl ?_
          exact tl_X1_make_no hC hss hrw hfw hnx hP hrt hrl hB hk hU ha b n1 n2 n3 n4 n5 g hl8 hp7 hms hn hno up2_s (by rw [up2_k (by decide)]; exact w7.1) (by rw [up2_k (by decide)]; exact w7.2.1) (fun y hy => by rw [up2_i (w_ne hrw hC (by simp))]; exact w7.2.2.2.2 y hy) (frn _)
        refine Wp_lv (lv2 := [(3, .int (pI (q - 1))), (0, .ref (ad ct)), (1, .ref (ad u)), (2, .int x)]) [0, 1, 2, 3] rfl ?_
        refine Wp_iload_n dX1_make_81 rfl 0 rfl ?_
        refine Wp_if_lt (tgt := 107) dX1_make_82 (by decide) rfl (fun _ => w107) (fun _ => ?_)
        refine Wp_aload_n dX1_make_85 rfl 1 rfl ?_
        refine Wp_get (x := (bI (false))) fk_X1_49 hC rfl up2_s dX1_make_86 ?_
        exact Wp_ifeq_b (tgt := 107) dX1_make_89 (by decide) (fun _ => w107) (fun w => absurd w (by decide))
theorem lp_X1_make1 {E : wE} {S : List wK} {ad : Nat → Nat} {V : wV} {ct ss rp rw h fw nx rt rl c z k u a : Nat} (hC : S[ct]? = some (.inl (1, [none, none, some (some ss), some (some rp), some (some rw), none, none, some (some h), some (some fw), some (some nx)]))) (hss : S[ss]? = some (.inr (.inl (false, 9)))) (hrw : S[rw]? = some (.inr (.inl (false, 8)))) (hfw : S[fw]? = some (.inr (.inl (false, 9)))) (hnx : S[nx]? = some (.inr (.inl (false, 9)))) (hP : S[rp]? = some (.inl (4, [some (some rt), none, none, some (some rl), none, none, none]))) (hrt : S[rt]? = some (.inr (.inl (false, 7)))) (hrl : S[rl]? = some (.inr (.inl (false, 7)))) (hB : S[h]? = some (.inl (0, [some (some c), some (some z), some (some k), none, none]))) (hk : S[k]? = some (.inr (.inl (false, 10)))) (hU : S[u]? = some (.inl (6, [some (some a), none, none, none, none]))) (ha : S[a]? = some (.inr (.inl (false, 8)))) {nb : Nat} {ln : Nat → Nat} {lt : Nat → Nat → Nat} (b : BK V h k nb ln lt) (n1 : rt ≠ rl) (n2 : fw ≠ nx) (n3 : ss ≠ fw) (n4 : ss ≠ nx) (n5 : a ≠ rw) {ms : Nat → Nat} {len pl un ti go n : Nat} (g : SG V u a (ms, len, pl, un, ti)) (hl8 : len ≤ 8) (hp7 : pl ≤ 7) (hms : ∀ k, k < len → ms k < nb) (hn : (go < len ∧ n + 1 = len) ∨ (len ≤ go ∧ n = len)) {x : Int32} (hgo : ∀ i, i < len → ((i : Int) = x.toInt ↔ i = go))  : ∀ (m : Nat) (i : Nat) (sz : Nat) (V1 : wV), i ≤ len → len < i + m → ((go < i ∧ sz + 1 = i) ∨ (i ≤ go ∧ sz = i)) → V1 ct 5 = nI sz → V1 ct 6 = nI pl → (∀ k, k < sz → V1 rw k = nI (del ms go k) ∧ del ms go k < nb) → (∀ j, j ≠ ct → j ≠ rw → V1 j = V j) → Wp E mX1_make (w_R 4 0 0) (w_v S ad (fun V' => (∃ md H st, CT V' ct ss rw pl n nb (del ms go) (law pl ln lt (del ms go)) md H st) ∧ ∀ j, j ≠ ct → j ≠ ss → j ≠ rw → j ≠ fw → j ≠ nx → j ≠ rp → j ≠ rt → j ≠ rl → V' j = V j)) 0 0 0 0 15 [(3, .int (nI (i))), (0, .ref (ad (ct))), (1, .ref (ad (u))), (2, .int (x))] [] S ad V1 := by
  have hone : (1 : Nat) = 1 := rfl
  have gg := g
  obtain ⟨g1, g2, g3, g4, g5⟩ := g
  intro m
  induction m with
  | zero => intro i sz V1 hi hm hsz v5 v6 vrw fr; omega
  | succ m ih =>
    intro i sz V1 hi hm hsz v5 v6 vrw fr
    refine Wp_iload_n dX1_make_15 rfl 0 rfl ?_
    refine Wp_aload_n dX1_make_16 rfl 2 rfl ?_
    refine Wp_get (x := (nI (len))) fk_X1_45 hU rfl (show V1 u 1 = nI len by rw [fr u (w_ne hU hC (by simp)) (w_ne hU hrw (by simp))]; exact g1) dX1_make_17 ?_
    refine Wp_icmp_ge (tgt := 59) dX1_make_20 (by decide) (nI_toInt (by omega)) (nI_toInt (by omega)) (fun c_20 => ?_) (fun c_20 => ?_)
    · refine Wp_aload_n dX1_make_59 rfl 1 rfl ?_
      refine Wp_getr fk_X1_25 hC rfl dX1_make_60 ?_
      refine Wp_aload_n dX1_make_63 rfl 1 rfl ?_
      refine Wp_get (x := (nI (sz))) fk_X1_42 hC rfl v5 dX1_make_64 ?_
      refine Wp_iconst (v := (nI (0))) dX1_make_67 (by decide) ?_
      refine Wp_ist (n := sz) hfw rfl (by omega) (by decide) dX1_make_68 ?_
      refine Wp_aload_n dX1_make_69 rfl 1 rfl ?_
      refine Wp_iconst (v := (nI (1))) dX1_make_70 (by decide) ?_
      refine Wp_put fk_X1_49 hC rfl rfl rfl dX1_make_71 ?_
      refine Wp_aload_n dX1_make_74 rfl 1 rfl ?_
      refine Wp_get (x := (nI (sz))) fk_X1_42 hC rfl ((up2_k (by decide)).trans ((up2_i (w_ne hC hfw (by simp))).trans v5)) dX1_make_75 ?_
      refine Wp_iconst (v := (nI (1))) dX1_make_78 (by decide) ?_
      refine Wp_isub (z := (pI n)) dX1_make_79 (by rw [show sz = n by omega]; rfl) ?_
      refine Wp_istore_n (lv' := [(3, .int (pI n)), (0, .ref (ad (ct))), (1, .ref (ad (u))), (2, .int (x))]) dX1_make_80 rfl (by decide) rfl ?_
      have esz : sz = n := by omega
      subst esz
      exact lp_X1_make2 hC hss hrw hfw hnx hP hrt hrl hB hk hU ha b n1 n2 n3 n4 n5 gg hl8 hp7 hms hn hgo (sz + 1) sz (fun _ => 0) (fun _ => 0) _ (by omega) (by omega) (by rw [up2_s]) ⟨by simp [up2, upd, (w_ne hC hfw (by simp))]; exact v5, by simp [up2, upd, (w_ne hC hfw (by simp))]; exact v6, by omega, hp7, fun q hq => by simp [up2, (w_ne hrw hC (by simp)), (w_ne hrw hfw (by simp))]; exact vrw q hq⟩ ((b.of (fr h (w_ne hB hC (by simp)) (w_ne hB hrw (by simp))) (fr k (w_ne hk hC (by simp)) (w_ne hk hrw (by simp)))).of (by simp [up2, (w_ne hB hC (by simp)), (w_ne hB hfw (by simp))]) (by simp [up2, (w_ne hk hC (by simp)), (w_ne hk hfw (by simp))])) rfl (fun e a1 a2 => by rw [up2_i (w_ne hfw hC (by simp)), show e = sz by omega, up2_s]; exact ⟨rfl, Nat.zero_le _⟩) (fun j a1 a2 => by omega) (fun j a1 a2 a3 a4 a5 a6 a7 a8 => by rw [← fr j a1 a3]; simp [up2, a1, a4])
    · refine Wp_iload_n dX1_make_23 rfl 0 rfl ?_
      refine Wp_iload_n dX1_make_24 rfl 3 rfl ?_
      refine Wp_icmp_eq (tgt := 53) dX1_make_25 (by decide) (nI_toInt (by omega)) (rfl) (fun c_25 => ?_) (fun c_25 => ?_)
      · have hig := (hgo i (by omega)).mp c_25
        refine Wp_iinc (x := (nI ((i + 1)))) (lv' := [(3, .int (nI ((i + 1)))), (0, .ref (ad (ct))), (1, .ref (ad (u))), (2, .int (x))]) dX1_make_53 0 rfl (w_inc1 _) (by decide) rfl ?_
        refine Wp_goto (tgt := 15) dX1_make_56 (by decide) ?_
        refine Wp_lv (lv2 := [(3, .int (nI (i + 1))), (0, .ref (ad ct)), (1, .ref (ad u)), (2, .int x)]) [0, 1, 2, 3] rfl ?_
        exact ih (i + 1) sz V1 (by omega) (by omega) (by omega) v5 v6 vrw fr
      · have hig : ¬ i = go := fun q => c_25 ((hgo i (by omega)).mpr q)
        have hdl : del ms go sz = ms i := by
          unfold del; split
          · rw [show sz = i by omega]
          · rw [show sz + 1 = i by omega]
        refine Wp_aload_n dX1_make_28 rfl 1 rfl ?_
        refine Wp_getr fk_X1_22 hC rfl dX1_make_29 ?_
        refine Wp_aload_n dX1_make_32 rfl 1 rfl ?_
        refine Wp_get (x := (nI (sz))) fk_X1_42 hC rfl v5 dX1_make_33 ?_
        refine Wp_aload_n dX1_make_36 rfl 2 rfl ?_
        refine Wp_getr fk_X1_46 hU rfl dX1_make_37 ?_
        refine Wp_iload_n dX1_make_40 rfl 0 rfl ?_
        refine Wp_ild (n := i) (y := (nI (ms i))) ha rfl (by omega) (by decide) (show V1 a i = nI (ms i) by rw [fr a (w_ne ha hC (by simp)) n5]; exact g5 i (show i < len by omega)) dX1_make_41 ?_
        refine Wp_ist (n := sz) hrw rfl (by omega) (by decide) dX1_make_42 ?_
        refine Wp_aload_n dX1_make_43 rfl 1 rfl ?_
        refine Wp_dup dX1_make_44 rfl ?_
        refine Wp_get (x := (nI (sz))) fk_X1_42 hC rfl ((up2_i (w_ne hC hrw (by simp))).trans v5) dX1_make_45 ?_
        refine Wp_iconst (v := (nI (1))) dX1_make_48 (by decide) ?_
        refine Wp_iadd (z := (nI ((sz + 1)))) dX1_make_49 (nI_add _ _) ?_
        refine Wp_put fk_X1_42 hC rfl rfl rfl dX1_make_50 ?_
        refine Wp_iinc (x := (nI ((i + 1)))) (lv' := [(3, .int (nI ((i + 1)))), (0, .ref (ad (ct))), (1, .ref (ad (u))), (2, .int (x))]) dX1_make_53 0 rfl (w_inc1 _) (by decide) rfl ?_
        refine Wp_goto (tgt := 15) dX1_make_56 (by decide) ?_
        refine Wp_lv (lv2 := [(3, .int (nI (i + 1))), (0, .ref (ad ct)), (1, .ref (ad u)), (2, .int x)]) [0, 1, 2, 3] rfl ?_
        exact ih (i + 1) (sz + 1) _ (by omega) (by omega) (by omega) (by rw [up2_s]) (by rw [up2_k (by decide), up2_i (w_ne hC hrw (by simp))]; exact v6) (fun k hk => by
          rw [up2_i (w_ne hrw hC (by simp))]
          by_cases z : k = sz
          · subst z; rw [up2_s, hdl]; exact ⟨rfl, hms i (by omega)⟩
          · rw [up2_k z]; exact vrw k (by omega)) (fun j a1 a2 => by rw [← fr j a1 a2]; simp [up2, a1, a2])
theorem c_X1_make {E : wE} {S : List wK} {ad : Nat → Nat} {V : wV} {ct ss rp rw h fw nx rt rl c z k u a : Nat} (hC : S[ct]? = some (.inl (1, [none, none, some (some ss), some (some rp), some (some rw), none, none, some (some h), some (some fw), some (some nx)]))) (hss : S[ss]? = some (.inr (.inl (false, 9)))) (hrw : S[rw]? = some (.inr (.inl (false, 8)))) (hfw : S[fw]? = some (.inr (.inl (false, 9)))) (hnx : S[nx]? = some (.inr (.inl (false, 9)))) (hP : S[rp]? = some (.inl (4, [some (some rt), none, none, some (some rl), none, none, none]))) (hrt : S[rt]? = some (.inr (.inl (false, 7)))) (hrl : S[rl]? = some (.inr (.inl (false, 7)))) (hB : S[h]? = some (.inl (0, [some (some c), some (some z), some (some k), none, none]))) (hk : S[k]? = some (.inr (.inl (false, 10)))) (hU : S[u]? = some (.inl (6, [some (some a), none, none, none, none]))) (ha : S[a]? = some (.inr (.inl (false, 8)))) {nb : Nat} {ln : Nat → Nat} {lt : Nat → Nat → Nat} (b : BK V h k nb ln lt) (n1 : rt ≠ rl) (n2 : fw ≠ nx) (n3 : ss ≠ fw) (n4 : ss ≠ nx) (n5 : a ≠ rw) {ms : Nat → Nat} {len pl un ti go n : Nat} (g : SG V u a (ms, len, pl, un, ti)) (hl8 : len ≤ 8) (hp7 : pl ≤ 7) (hms : ∀ k, k < len → ms k < nb) (hn : (go < len ∧ n + 1 = len) ∨ (len ≤ go ∧ n = len)) {x : Int32} (hgo : ∀ i, i < len → ((i : Int) = x.toInt ↔ i = go))  : w_C E mX1_make (w_R 4 0 0) 0 0 [.ref (ad (ct)), .ref (ad (u)), .int (x)] S ad V (w_v S ad (fun V' => (∃ md H st, CT V' ct ss rw pl n nb (del ms go) (law pl ln lt (del ms go)) md H st) ∧ ∀ j, j ≠ ct → j ≠ ss → j ≠ rw → j ≠ fw → j ≠ nx → j ≠ rp → j ≠ rt → j ≠ rl → V' j = V j)) := by
  refine w_C.of (by decide) (Nat.le_of_ble_eq_true rfl) ?_
  show Wp _ _ _ _ _ _ _ _ _ [(0, .ref (ad (ct))), (1, .ref (ad (u))), (2, .int (x))] [] S ad V
  have hone : (1 : Nat) = 1 := rfl
  have gg := g
  obtain ⟨g1, g2, g3, g4, g5⟩ := g
  refine Wp_aload_n dX1_make_0 rfl 0 rfl ?_
  refine Wp_aload_n dX1_make_1 rfl 1 rfl ?_
  refine Wp_get (x := (nI (pl))) fk_X1_35 hU rfl g2 dX1_make_2 ?_
  refine Wp_put fk_X1_41 hC rfl rfl rfl dX1_make_5 ?_
  refine Wp_aload_n dX1_make_8 rfl 0 rfl ?_
  refine Wp_iconst (v := (nI (0))) dX1_make_9 (by decide) ?_
  refine Wp_put fk_X1_42 hC rfl rfl rfl dX1_make_10 ?_
  refine Wp_iconst (v := (nI (0))) dX1_make_13 (by decide) ?_
  refine Wp_istore_n (lv' := [(3, .int (nI (0))), (0, .ref (ad (ct))), (1, .ref (ad (u))), (2, .int (x))]) dX1_make_14 rfl (by decide) rfl ?_
  exact lp_X1_make1 hC hss hrw hfw hnx hP hrt hrl hB hk hU ha b n1 n2 n3 n4 n5 gg hl8 hp7 hms hn hgo (len + 1) 0 0 _ (by omega) (by omega) (by omega) (by rw [up2_s]) (by rw [up2_k (by decide), up2_s]) (fun k hk => by omega) (fun j a1 a2 => by simp [up2, a1])
end
section
/-! THE CUT: hoists shown, read from afar; what was seen -/
def hsz (pl : Nat) (ln : Nat → Nat) (lt : Nat → Nat → Nat) (row : Nat → Nat) (a e : Nat) : Nat := match hRw pl ln lt row (e - a) a h0H with
  | some g => g.2.1
  | none => 0
theorem hsz_s {pl : Nat} {ln : Nat → Nat} {lt : Nat → Nat → Nat} {row : Nat → Nat} {a e : Nat} {g : aH} (h : hRw pl ln lt row (e - a) a h0H = some g) : hsz pl ln lt row a e = g.2.1 := by unfold hsz; rw [h]
def prd (f : Nat → Nat) (a : Nat) : Nat → Nat
  | 0 => 1
  | k + 1 => prd f a k * f (a + k)
def frt (p : Nat → Bool) : Nat → Nat
  | 0 => 0
  | d + 1 => if p (d + 1) = true then d + 1 else frt p d
theorem CT.of {V V' : wV} {ct ss rw pl n nb : Nat} {row : Nat → Nat} {lw : Nat → Nat → Bool} {md : Bool} {H : Nat} {st : Nat → Nat} (h : CT V ct ss rw pl n nb row lw md H st) (h1 : V' ct = V ct) (h2 : V' ss = V ss) (h3 : V' rw = V rw) : CT V' ct ss rw pl n nb row lw md H st := by
  unfold CT RW; rw [h1, h2, h3]; exact h
theorem c_X1_has {E : wE} {S : List wK} {ad : Nat → Nat} {V : wV} {ct ss rp rw h fw nx : Nat} (hC : S[ct]? = some (.inl (1, [none, none, some (some ss), some (some rp), some (some rw), none, none, some (some h), some (some fw), some (some nx)]))) {pl n nb : Nat} {row : Nat → Nat} {lw : Nat → Nat → Bool} {md : Bool} {H : Nat} {st : Nat → Nat} (k0 : CT V ct ss rw pl n nb row lw md H st) (x : Int32) : w_C E mX1_has (w_R 0 0 0) 0 0 [.ref (ad (ct)), .int (x)] S ad V (w_i S ad (fun r V' => r = bI (md && decide (0 ≤ x.toInt ∧ x.toInt < H)) ∧ V' = V)) := by
  refine w_C.of (by decide) (Nat.le_of_ble_eq_true rfl) ?_
  show Wp _ _ _ _ _ _ _ _ _ [(0, .ref (ad (ct))), (1, .int (x))] [] S ad V
  have hH := k0.2.2.2.1
  refine Wp_aload_n dX1_has_0 rfl 0 rfl ?_
  refine Wp_get (x := (bI (md))) fk_X1_49 hC rfl k0.1 dX1_has_1 ?_
  refine Wp_ifeq_b (tgt := 23) dX1_has_4 (by decide) (fun c_4 => ?_) (fun c_4 => ?_)
  · refine Wp_iconst (v := (nI (0))) dX1_has_23 (by decide) ?_
    exact Wp_zret (b := false) rfl rfl ⟨rfl, rfl, _, rfl, ⟨by first | (rw [c_4]; rfl) | (rw [c_4, decide_eq_false (by omega)]; rfl), rfl⟩⟩ (Nat.le_refl _) (Nat.le_refl _) dX1_has_24
  · refine Wp_iload_n dX1_has_7 rfl 1 rfl ?_
    refine Wp_if_lt (tgt := 23) dX1_has_8 (by decide) (rfl) (fun c_8 => ?_) (fun c_8 => ?_)
    · refine Wp_iconst (v := (nI (0))) dX1_has_23 (by decide) ?_
      exact Wp_zret (b := false) rfl rfl ⟨rfl, rfl, _, rfl, ⟨by first | (rw [c_4]; rfl) | (rw [c_4, decide_eq_false (by omega)]; rfl), rfl⟩⟩ (Nat.le_refl _) (Nat.le_refl _) dX1_has_24
    · refine Wp_iload_n dX1_has_11 rfl 1 rfl ?_
      refine Wp_aload_n dX1_has_12 rfl 0 rfl ?_
      refine Wp_get (x := (nI (H))) fk_X1_57 hC rfl k0.2.1 dX1_has_13 ?_
      refine Wp_icmp_ge (tgt := 23) dX1_has_16 (by decide) (rfl) (nI_toInt (by omega)) (fun c_16 => ?_) (fun c_16 => ?_)
      · refine Wp_iconst (v := (nI (0))) dX1_has_23 (by decide) ?_
        exact Wp_zret (b := false) rfl rfl ⟨rfl, rfl, _, rfl, ⟨by first | (rw [c_4]; rfl) | (rw [c_4, decide_eq_false (by omega)]; rfl), rfl⟩⟩ (Nat.le_refl _) (Nat.le_refl _) dX1_has_24
      · refine Wp_iconst (v := (nI (1))) dX1_has_19 (by decide) ?_
        refine Wp_goto (tgt := 24) dX1_has_20 (by decide) ?_
        exact Wp_zret (b := true) rfl rfl ⟨rfl, rfl, _, rfl, ⟨by rw [c_4, decide_eq_true (by omega)]; rfl, rfl⟩⟩ (Nat.le_refl _) (Nat.le_refl _) dX1_has_24
theorem lp_X1_show {E : wE} {S : List wK} {ad : Nat → Nat} {V : wV} {ct ss rp rw h fw nx rt rl c z k : Nat} (hC : S[ct]? = some (.inl (1, [none, none, some (some ss), some (some rp), some (some rw), none, none, some (some h), some (some fw), some (some nx)]))) (hss : S[ss]? = some (.inr (.inl (false, 9)))) (hrw : S[rw]? = some (.inr (.inl (false, 8)))) (hP : S[rp]? = some (.inl (4, [some (some rt), none, none, some (some rl), none, none, none]))) (hrt : S[rt]? = some (.inr (.inl (false, 7)))) (hrl : S[rl]? = some (.inr (.inl (false, 7)))) (hB : S[h]? = some (.inl (0, [some (some c), some (some z), some (some k), none, none]))) (hk : S[k]? = some (.inr (.inl (false, 10)))) {nb : Nat} {ln : Nat → Nat} {lt : Nat → Nat → Nat} (b : BK V h k nb ln lt) {pl n : Nat} {row : Nat → Nat} {md : Bool} {H : Nat} {st : Nat → Nat} (k0 : CT V ct ss rw pl n nb row (law pl ln lt row) md H st) (n1 : rt ≠ rl) {K : Nat} (hmd : md = true) (hK : K < H)  : ∀ (m : Nat) (f : Nat) (g : aH) (V1 : wV), st K + f ≤ st (K + 1) → st (K + 1) < st K + f + m → hRw pl ln lt row f (st K) h0H = some g → RP V1 rp rt rl pl g → (∀ j, j ≠ rp → j ≠ rt → j ≠ rl → V1 j = V j) → Wp E mX1_show (w_R 3 0 0) (w_v S ad (fun V' => (∃ g, hRw pl ln lt row (st (K + 1) - st K) (st K) h0H = some g ∧ RP V' rp rt rl pl g) ∧ ∀ j, j ≠ rp → j ≠ rt → j ≠ rl → V' j = V j)) 0 0 0 0 26 [(2, .int (nI ((st K + f)))), (0, .ref (ad (ct))), (1, .int (nI (K)))] [] S ad V1 := by
  have hH := k0.2.2.2.1
  have hw := k0.2.2.1
  have hst := k0.2.2.2.2.1 hmd
  have hdp := DPS_lt (k0.2.2.2.2.2.2.1 hmd) hK
  have hn8 := hw.2.2.1
  intro m
  induction m with
  | zero => intro f g V1 h1 hm hg q0 fr; omega
  | succ m ih =>
    intro f g V1 h1 hm hg q0 fr
    refine Wp_iload_n dX1_show_26 rfl 0 rfl ?_
    refine Wp_aload_n dX1_show_27 rfl 1 rfl ?_
    refine Wp_getr fk_X1_9 hC rfl dX1_show_28 ?_
    refine Wp_iload_n dX1_show_31 rfl 2 rfl ?_
    refine Wp_iconst (v := (nI (1))) dX1_show_32 (by decide) ?_
    refine Wp_iadd (z := (nI ((K + 1)))) dX1_show_33 (nI_add _ _) ?_
    refine Wp_ild (n := (K + 1)) (y := (nI (st (K + 1)))) hss rfl (by omega) (by decide) (show V1 ss (K + 1) = nI (st (K + 1)) by rw [fr ss (w_ne hss hP (by simp)) (w_ne hss hrt (by simp)) (w_ne hss hrl (by simp))]; exact (hst (K + 1) (by omega)).1) dX1_show_34 ?_
    refine Wp_icmp_ge (tgt := 62) dX1_show_35 (by decide) (nI_toInt (by omega)) (nI_toInt (by omega)) (fun c_35 => ?_) (fun c_35 => ?_)
    · exact Wp_vret rfl ⟨rfl, rfl, rfl, ⟨⟨g, by rw [show st (K + 1) - st K = f by omega]; exact hg, q0⟩, fr⟩⟩ (Nat.le_refl _) (Nat.le_refl _) dX1_show_62
    · have b1 : BK V1 h k nb ln lt := b.of (fr h (w_ne hB hP (by simp)) (w_ne hB hrt (by simp)) (w_ne hB hrl (by simp))) (fr k (w_ne hk hP (by simp)) (w_ne hk hrt (by simp)) (w_ne hk hrl (by simp)))
      have hsn := hRw_snoc (room := pl) (ln := ln) (lt := lt) (row := row) f (st K) h0H
      rw [hg] at hsn
      have hsn : hRw pl ln lt row (f + 1) (st K) h0H = hCode pl ln lt (row (st K + f)) g := hsn
      have hlw := law_mono (e := st K + (f + 1)) hdp.2.2 (by omega) (by omega)
      unfold law at hlw
      rw [show st K + (f + 1) - st K = f + 1 by omega] at hlw
      obtain ⟨g2, hg2⟩ := Option.isSome_iff_exists.mp hlw
      refine Wp_aload_n dX1_show_38 rfl 1 rfl ?_
      refine Wp_getr fk_X1_18 hC rfl dX1_show_39 ?_
      refine Wp_aload_n dX1_show_42 rfl 1 rfl ?_
      refine Wp_getr fk_X1_31 hC rfl dX1_show_43 ?_
      refine Wp_aload_n dX1_show_46 rfl 1 rfl ?_
      refine Wp_getr fk_X1_22 hC rfl dX1_show_47 ?_
      refine Wp_iload_n dX1_show_50 rfl 0 rfl ?_
      refine Wp_ild (n := (st K + f)) (y := (nI (row (st K + f)))) hrw rfl (by omega) (by decide) (show V1 rw (st K + f) = nI (row (st K + f)) by rw [fr rw (w_ne hrw hP (by simp)) (w_ne hrw hrt (by simp)) (w_ne hrw hrl (by simp))]; exact (hw.2.2.2.2 (st K + f) (by omega)).1) dX1_show_51 ?_
      refine Wp_callVi (c_X4_addCode hP hrt hrl hB hk q0 b1 n1 (hw.2.2.2.2 (st K + f) (by omega)).2) YV_X4_addCode ml_X1_64 hP rfl dX1_show_52 (by omega) (by decide) (by omega) (by omega) rfl rfl (Nat.le_of_ble_eq_true rfl) (fun r7 V7 hr7 => ?_)
      obtain ⟨e7, p7, fr7⟩ := hr7
      subst e7
      refine Wp_pop dX1_show_55 rfl ?_
      refine Wp_iinc (x := (nI (((st K + f) + 1)))) (lv' := [(2, .int (nI (((st K + f) + 1)))), (0, .ref (ad (ct))), (1, .int (nI (K)))]) dX1_show_56 0 rfl (w_inc1 _) (by decide) rfl ?_
      refine Wp_goto (tgt := 26) dX1_show_59 (by decide) ?_
      exact ih (f + 1) g2 V7 (by omega) (by omega) hg2 (p7 g2 (by rw [← hsn]; exact hg2)) (fun j a1 a2 a3 => by rw [fr7 j a1 a2 a3, fr j a1 a2 a3])
theorem c_X1_show {E : wE} {S : List wK} {ad : Nat → Nat} {V : wV} {ct ss rp rw h fw nx rt rl c z k : Nat} (hC : S[ct]? = some (.inl (1, [none, none, some (some ss), some (some rp), some (some rw), none, none, some (some h), some (some fw), some (some nx)]))) (hss : S[ss]? = some (.inr (.inl (false, 9)))) (hrw : S[rw]? = some (.inr (.inl (false, 8)))) (hP : S[rp]? = some (.inl (4, [some (some rt), none, none, some (some rl), none, none, none]))) (hrt : S[rt]? = some (.inr (.inl (false, 7)))) (hrl : S[rl]? = some (.inr (.inl (false, 7)))) (hB : S[h]? = some (.inl (0, [some (some c), some (some z), some (some k), none, none]))) (hk : S[k]? = some (.inr (.inl (false, 10)))) {nb : Nat} {ln : Nat → Nat} {lt : Nat → Nat → Nat} (b : BK V h k nb ln lt) {pl n : Nat} {row : Nat → Nat} {md : Bool} {H : Nat} {st : Nat → Nat} (k0 : CT V ct ss rw pl n nb row (law pl ln lt row) md H st) (n1 : rt ≠ rl) {K : Nat} (hmd : md = true) (hK : K < H)  : w_C E mX1_show (w_R 3 0 0) 0 0 [.ref (ad (ct)), .int (nI (K))] S ad V (w_v S ad (fun V' => (∃ g, hRw pl ln lt row (st (K + 1) - st K) (st K) h0H = some g ∧ RP V' rp rt rl pl g) ∧ ∀ j, j ≠ rp → j ≠ rt → j ≠ rl → V' j = V j)) := by
  refine w_C.of (by decide) (Nat.le_of_ble_eq_true rfl) ?_
  show Wp _ _ _ _ _ _ _ _ _ [(0, .ref (ad (ct))), (1, .int (nI (K)))] [] S ad V
  have hH := k0.2.2.2.1
  have hw := k0.2.2.1
  have hst := k0.2.2.2.2.1 hmd
  have hdp := DPS_lt (k0.2.2.2.2.2.2.1 hmd) hK
  have hn8 := hw.2.2.1
  refine Wp_aload_n dX1_show_0 rfl 0 rfl ?_
  refine Wp_getr fk_X1_18 hC rfl dX1_show_1 ?_
  refine Wp_aload_n dX1_show_4 rfl 0 rfl ?_
  refine Wp_get (x := (nI (pl))) fk_X1_41 hC rfl hw.2.1 dX1_show_5 ?_
  refine Wp_callVv (c_X4_begin hP (rt := rt) (rl := rl) hw.2.2.2.1) YV_X4_begin ml_X1_60 hP rfl dX1_show_8 (by omega) (by decide) (by omega) (by omega) rfl rfl (Nat.le_of_ble_eq_true rfl) (fun V1 hV1 => ?_)
  obtain ⟨q1, fr⟩ := hV1
  have k1 := k0.of (fr ct (w_ne hC hP (by simp))) (fr ss (w_ne hss hP (by simp))) (fr rw (w_ne hrw hP (by simp)))
  refine Wp_aload_n dX1_show_11 rfl 0 rfl ?_
  refine Wp_iload_n dX1_show_12 rfl 1 rfl ?_
  refine Wp_callVg (c_X1_has hC k1 _) YV_X1_has ml_X1_68 hC rfl dX1_show_13 (by omega) (by decide) (by omega) (by omega) rfl rfl (Nat.le_of_ble_eq_true rfl) ?_
  refine Wp_ifeq_b (tgt := 62) dX1_show_16 (by decide) (fun c_16 => absurd c_16 (by rw [hmd, has_nI (by omega), decide_eq_true hK]; decide)) (fun c_16 => ?_)
  refine Wp_aload_n dX1_show_19 rfl 0 rfl ?_
  refine Wp_getr fk_X1_9 hC rfl dX1_show_20 ?_
  refine Wp_iload_n dX1_show_23 rfl 1 rfl ?_
  refine Wp_ild (n := K) (y := (nI ((st K + 0)))) hss rfl (by omega) (by decide) (show V1 ss K = nI (st K + 0) by rw [fr ss (w_ne hss hP (by simp))]; exact (hst K (by omega)).1) dX1_show_24 ?_
  refine Wp_istore_n (lv' := [(2, .int (nI ((st K + 0)))), (0, .ref (ad (ct))), (1, .int (nI (K)))]) dX1_show_25 rfl (by decide) rfl ?_
  exact lp_X1_show hC hss hrw hP hrt hrl hB hk b k0 n1 hmd hK 9 0 h0H V1 (by omega) (by have := (hst (K + 1) (by omega)).2; omega) rfl q1 (fun j a1 a2 a3 => fr j a1)
theorem c_X1_show_no {E : wE} {S : List wK} {ad : Nat → Nat} {V : wV} {ct ss rp rw h fw nx rt rl c z k : Nat} (hC : S[ct]? = some (.inl (1, [none, none, some (some ss), some (some rp), some (some rw), none, none, some (some h), some (some fw), some (some nx)]))) (hss : S[ss]? = some (.inr (.inl (false, 9)))) (hrw : S[rw]? = some (.inr (.inl (false, 8)))) (hP : S[rp]? = some (.inl (4, [some (some rt), none, none, some (some rl), none, none, none]))) (hrt : S[rt]? = some (.inr (.inl (false, 7)))) (hrl : S[rl]? = some (.inr (.inl (false, 7)))) (hB : S[h]? = some (.inl (0, [some (some c), some (some z), some (some k), none, none]))) (hk : S[k]? = some (.inr (.inl (false, 10)))) {nb : Nat} {ln : Nat → Nat} {lt : Nat → Nat → Nat} (b : BK V h k nb ln lt) {pl n : Nat} {row : Nat → Nat} {md : Bool} {H : Nat} {st : Nat → Nat} (k0 : CT V ct ss rw pl n nb row (law pl ln lt row) md H st) (n1 : rt ≠ rl) {x : Int32} (hno : (md && decide (0 ≤ x.toInt ∧ x.toInt < H)) = false)  : w_C E mX1_show (w_R 3 0 0) 0 0 [.ref (ad (ct)), .int (x)] S ad V (w_v S ad (fun V' => RP V' rp rt rl pl h0H ∧ ∀ j, j ≠ rp → j ≠ rt → j ≠ rl → V' j = V j)) := by
  refine w_C.of (by decide) (Nat.le_of_ble_eq_true rfl) ?_
  show Wp _ _ _ _ _ _ _ _ _ [(0, .ref (ad (ct))), (1, .int (x))] [] S ad V
  have hw := k0.2.2.1
  refine Wp_aload_n dX1_show_0 rfl 0 rfl ?_
  refine Wp_getr fk_X1_18 hC rfl dX1_show_1 ?_
  refine Wp_aload_n dX1_show_4 rfl 0 rfl ?_
  refine Wp_get (x := (nI (pl))) fk_X1_41 hC rfl hw.2.1 dX1_show_5 ?_
  refine Wp_callVv (c_X4_begin hP (rt := rt) (rl := rl) hw.2.2.2.1) YV_X4_begin ml_X1_60 hP rfl dX1_show_8 (by omega) (by decide) (by omega) (by omega) rfl rfl (Nat.le_of_ble_eq_true rfl) (fun V1 hV1 => ?_)
  obtain ⟨q1, fr⟩ := hV1
  have k1 := k0.of (fr ct (w_ne hC hP (by simp))) (fr ss (w_ne hss hP (by simp))) (fr rw (w_ne hrw hP (by simp)))
  refine Wp_aload_n dX1_show_11 rfl 0 rfl ?_
  refine Wp_iload_n dX1_show_12 rfl 1 rfl ?_
  refine Wp_callVg (c_X1_has hC k1 _) YV_X1_has ml_X1_68 hC rfl dX1_show_13 (by omega) (by decide) (by omega) (by omega) rfl rfl (Nat.le_of_ble_eq_true rfl) ?_
  refine Wp_ifeq_b (tgt := 62) dX1_show_16 (by decide) (fun c_16 => ?_) (fun c_16 => absurd c_16 (by rw [hno]; decide))
  exact Wp_vret rfl ⟨rfl, rfl, rfl, ⟨q1, fun j a1 a2 a3 => fr j a1⟩⟩ (Nat.le_refl _) (Nat.le_refl _) dX1_show_62
def thg (pl : Nat) (ln : Nat → Nat) (lt : Nat → Nat → Nat) (row : Nat → Nat) (md : Bool) (H : Nat) (st : Nat → Nat) (K : Nat) : Nat := if md = true ∧ K < H then hsz pl ln lt row (st K) (st (K + 1)) else 0
theorem c_X1_thingsOf {E : wE} {S : List wK} {ad : Nat → Nat} {V : wV} {ct ss rp rw h fw nx rt rl c z k : Nat} (hC : S[ct]? = some (.inl (1, [none, none, some (some ss), some (some rp), some (some rw), none, none, some (some h), some (some fw), some (some nx)]))) (hss : S[ss]? = some (.inr (.inl (false, 9)))) (hrw : S[rw]? = some (.inr (.inl (false, 8)))) (hP : S[rp]? = some (.inl (4, [some (some rt), none, none, some (some rl), none, none, none]))) (hrt : S[rt]? = some (.inr (.inl (false, 7)))) (hrl : S[rl]? = some (.inr (.inl (false, 7)))) (hB : S[h]? = some (.inl (0, [some (some c), some (some z), some (some k), none, none]))) (hk : S[k]? = some (.inr (.inl (false, 10)))) {nb : Nat} {ln : Nat → Nat} {lt : Nat → Nat → Nat} (b : BK V h k nb ln lt) {pl n : Nat} {row : Nat → Nat} {md : Bool} {H : Nat} {st : Nat → Nat} (k0 : CT V ct ss rw pl n nb row (law pl ln lt row) md H st) (n1 : rt ≠ rl) {K : Nat} (hK31 : K < 2 ^ 30)  : w_C E mX1_thingsOf (w_R 4 0 0) 0 0 [.ref (ad (ct)), .int (nI (K))] S ad V (w_i S ad (fun r V' => r = nI (thg pl ln lt row md H st K) ∧ thg pl ln lt row md H st K ≤ 7 ∧ ∀ j, j ≠ rp → j ≠ rt → j ≠ rl → V' j = V j)) := by
  refine w_C.of (by decide) (Nat.le_of_ble_eq_true rfl) ?_
  show Wp _ _ _ _ _ _ _ _ _ [(0, .ref (ad (ct))), (1, .int (nI (K)))] [] S ad V
  by_cases hh : md = true ∧ K < H
  · refine Wp_aload_n dX1_thingsOf_0 rfl 0 rfl ?_
    refine Wp_iload_n dX1_thingsOf_1 rfl 1 rfl ?_
    refine Wp_callVv (c_X1_show hC hss hrw hP hrt hrl hB hk b k0 n1 hh.1 hh.2) YV_X1_show ml_X1_71 hC rfl dX1_thingsOf_2 (by omega) (by decide) (by omega) (by omega) rfl rfl (Nat.le_of_ble_eq_true rfl) (fun V1 hV1 => ?_)
    obtain ⟨⟨g, hg, q1⟩, fr⟩ := hV1
    refine Wp_aload_n dX1_thingsOf_5 rfl 0 rfl ?_
    refine Wp_getr fk_X1_18 hC rfl dX1_thingsOf_6 ?_
    refine Wp_get (x := (nI (g.2.1))) fk_X1_74 hP rfl q1.1 dX1_thingsOf_9 ?_
    exact Wp_iret rfl ⟨rfl, rfl, _, rfl, ⟨by unfold thg; rw [if_pos hh, hsz_s hg], by unfold thg; rw [if_pos hh, hsz_s hg]; have z1 := q1.2.2.2.2.2.1; have z2 := q1.2.2.2.2.2.2.1; omega, fr⟩⟩ (Nat.le_refl _) (Nat.le_refl _) dX1_thingsOf_12
  · have hno : (md && decide (0 ≤ (nI K).toInt ∧ (nI K).toInt < H)) = false := by
      rw [has_nI (by omega)]
      cases q : md with
      | false => rfl
      | true => rw [decide_eq_false (fun w => hh ⟨q, w⟩)]; rfl
    refine Wp_aload_n dX1_thingsOf_0 rfl 0 rfl ?_
    refine Wp_iload_n dX1_thingsOf_1 rfl 1 rfl ?_
    refine Wp_callVv (c_X1_show_no hC hss hrw hP hrt hrl hB hk b k0 n1 (x := nI K) hno) YV_X1_show ml_X1_71 hC rfl dX1_thingsOf_2 (by omega) (by decide) (by omega) (by omega) rfl rfl (Nat.le_of_ble_eq_true rfl) (fun V1 hV1 => ?_)
    refine Wp_aload_n dX1_thingsOf_5 rfl 0 rfl ?_
    refine Wp_getr fk_X1_18 hC rfl dX1_thingsOf_6 ?_
    refine Wp_get (x := (nI (0))) fk_X1_74 hP rfl hV1.1.1 dX1_thingsOf_9 ?_
    exact Wp_iret rfl ⟨rfl, rfl, _, rfl, ⟨by unfold thg; rw [if_neg hh], by unfold thg; rw [if_neg hh]; omega, hV1.2⟩⟩ (Nat.le_refl _) (Nat.le_refl _) dX1_thingsOf_12
theorem lp_X1_waysToRead {E : wE} {S : List wK} {ad : Nat → Nat} {V : wV} {ct ss rp rw h fw nx c z k : Nat} (hC : S[ct]? = some (.inl (1, [none, none, some (some ss), some (some rp), some (some rw), none, none, some (some h), some (some fw), some (some nx)]))) (hss : S[ss]? = some (.inr (.inl (false, 9)))) (hrw : S[rw]? = some (.inr (.inl (false, 8)))) (hB : S[h]? = some (.inl (0, [some (some c), some (some z), some (some k), none, none]))) (hc : S[c]? = some (.inr (.inl (false, 8)))) (hz : S[z]? = some (.inr (.inl (false, 8)))) (hk : S[k]? = some (.inr (.inl (false, 10)))) {nb : Nat} {ln : Nat → Nat} {lt : Nat → Nat → Nat} (b : BK V h k nb ln lt) {pl n : Nat} {row : Nat → Nat} {md : Bool} {H : Nat} {st : Nat → Nat} (k0 : CT V ct ss rw pl n nb row (law pl ln lt row) md H st) {col siz : Nat → Nat} (fg : FG V c z col siz) {K : Nat} (hmd : md = true) (hK : K < H) {e : Nat} (he : e ≤ 9)  : ∀ (m : Nat) (f : Nat), st K + f ≤ st (K + 1) → st (K + 1) < st K + f + m → Wp E mX1_waysToRead (w_R 4 0 0) (w_i S ad (fun r V' => r = nI (prd (fun i => lkd (tld col siz ln lt e (row i)) nb) (st K) (st (K + 1) - st K)) ∧ V' = V)) 0 0 0 0 18 [(4, .int (nI ((st K + f)))), (3, .int (nI (prd (fun i => lkd (tld col siz ln lt e (row i)) nb) (st K) f))), (0, .ref (ad (ct))), (1, .int (nI (K))), (2, .int (nI (e)))] [] S ad V := by
  have hH := k0.2.2.2.1
  have hw := k0.2.2.1
  have hst := k0.2.2.2.2.1 hmd
  have hdp := DPS_lt (k0.2.2.2.2.2.2.1 hmd) hK
  have hn8 := hw.2.2.1
  intro m
  induction m with
  | zero => intro f h1 hm; omega
  | succ m ih =>
    intro f h1 hm
    refine Wp_iload dX1_waysToRead_18 0 rfl ?_
    refine Wp_aload_n dX1_waysToRead_20 rfl 2 rfl ?_
    refine Wp_getr fk_X1_9 hC rfl dX1_waysToRead_21 ?_
    refine Wp_iload_n dX1_waysToRead_24 rfl 3 rfl ?_
    refine Wp_iconst (v := (nI (1))) dX1_waysToRead_25 (by decide) ?_
    refine Wp_iadd (z := (nI ((K + 1)))) dX1_waysToRead_26 (nI_add _ _) ?_
    refine Wp_ild (n := (K + 1)) (y := (nI (st (K + 1)))) hss rfl (by omega) (by decide) (hst (K + 1) (by omega)).1 dX1_waysToRead_27 ?_
    refine Wp_icmp_ge (tgt := 55) dX1_waysToRead_28 (by decide) (nI_toInt (by omega)) (nI_toInt (by omega)) (fun c_28 => ?_) (fun c_28 => ?_)
    · refine Wp_iload_n dX1_waysToRead_55 rfl 1 rfl ?_
      exact Wp_iret rfl ⟨rfl, rfl, _, rfl, ⟨by rw [show st (K + 1) - st K = f by omega], rfl⟩⟩ (Nat.le_refl _) (Nat.le_refl _) dX1_waysToRead_56
    · refine Wp_iload_n dX1_waysToRead_31 rfl 1 rfl ?_
      refine Wp_aload_n dX1_waysToRead_32 rfl 2 rfl ?_
      refine Wp_getr fk_X1_31 hC rfl dX1_waysToRead_33 ?_
      refine Wp_aload_n dX1_waysToRead_36 rfl 2 rfl ?_
      refine Wp_getr fk_X1_22 hC rfl dX1_waysToRead_37 ?_
      refine Wp_iload dX1_waysToRead_40 0 rfl ?_
      refine Wp_ild (n := (st K + f)) (y := (nI (row (st K + f)))) hrw rfl (by omega) (by decide) (hw.2.2.2.2 (st K + f) (by omega)).1 dX1_waysToRead_42 ?_
      refine Wp_iload_n dX1_waysToRead_43 rfl 4 rfl ?_
      refine Wp_callVg (c_X0_likenesses hB hc hz hk b fg (hw.2.2.2.2 (st K + f) (by omega)).2 he) YV_X0_likenesses ml_X1_75 hB rfl dX1_waysToRead_44 (by omega) (by decide) (by omega) (by omega) rfl rfl (Nat.le_of_ble_eq_true rfl) ?_
      refine Wp_imul (z := (nI (prd (fun i => lkd (tld col siz ln lt e (row i)) nb) (st K) (f + 1)))) dX1_waysToRead_47 (pk_mul _ _) ?_
      refine Wp_istore_n (lv' := [(3, .int (nI (prd (fun i => lkd (tld col siz ln lt e (row i)) nb) (st K) (f + 1)))), (4, .int (nI ((st K + f)))), (0, .ref (ad (ct))), (1, .int (nI (K))), (2, .int (nI (e)))]) dX1_waysToRead_48 rfl (by decide) rfl ?_
      refine Wp_iinc (x := (nI (((st K + f) + 1)))) (lv' := [(4, .int (nI (((st K + f) + 1)))), (3, .int (nI (prd (fun i => lkd (tld col siz ln lt e (row i)) nb) (st K) (f + 1)))), (0, .ref (ad (ct))), (1, .int (nI (K))), (2, .int (nI (e)))]) dX1_waysToRead_49 1 rfl (w_inc1 _) (by decide) rfl ?_
      refine Wp_goto (tgt := 18) dX1_waysToRead_52 (by decide) ?_
      exact ih (f + 1) (by omega) (by omega)
theorem c_X1_waysToRead {E : wE} {S : List wK} {ad : Nat → Nat} {V : wV} {ct ss rp rw h fw nx c z k : Nat} (hC : S[ct]? = some (.inl (1, [none, none, some (some ss), some (some rp), some (some rw), none, none, some (some h), some (some fw), some (some nx)]))) (hss : S[ss]? = some (.inr (.inl (false, 9)))) (hrw : S[rw]? = some (.inr (.inl (false, 8)))) (hB : S[h]? = some (.inl (0, [some (some c), some (some z), some (some k), none, none]))) (hc : S[c]? = some (.inr (.inl (false, 8)))) (hz : S[z]? = some (.inr (.inl (false, 8)))) (hk : S[k]? = some (.inr (.inl (false, 10)))) {nb : Nat} {ln : Nat → Nat} {lt : Nat → Nat → Nat} (b : BK V h k nb ln lt) {pl n : Nat} {row : Nat → Nat} {md : Bool} {H : Nat} {st : Nat → Nat} (k0 : CT V ct ss rw pl n nb row (law pl ln lt row) md H st) {col siz : Nat → Nat} (fg : FG V c z col siz) {K : Nat} (hmd : md = true) (hK : K < H) {e : Nat} (he : e ≤ 9)  : w_C E mX1_waysToRead (w_R 4 0 0) 0 0 [.ref (ad (ct)), .int (nI (K)), .int (nI (e))] S ad V (w_i S ad (fun r V' => r = nI (prd (fun i => lkd (tld col siz ln lt e (row i)) nb) (st K) (st (K + 1) - st K)) ∧ V' = V)) := by
  refine w_C.of (by decide) (Nat.le_of_ble_eq_true rfl) ?_
  show Wp _ _ _ _ _ _ _ _ _ [(0, .ref (ad (ct))), (1, .int (nI (K))), (2, .int (nI (e)))] [] S ad V
  have hH := k0.2.2.2.1
  have hst := k0.2.2.2.2.1 hmd
  have hdp := DPS_lt (k0.2.2.2.2.2.2.1 hmd) hK
  have hn8 := k0.2.2.1.2.2.1
  refine Wp_iconst (v := (nI (1))) dX1_waysToRead_0 (by decide) ?_
  refine Wp_istore_n (lv' := [(3, .int (nI (1))), (0, .ref (ad (ct))), (1, .int (nI (K))), (2, .int (nI (e)))]) dX1_waysToRead_1 rfl (by decide) rfl ?_
  refine Wp_aload_n dX1_waysToRead_2 rfl 1 rfl ?_
  refine Wp_iload_n dX1_waysToRead_3 rfl 2 rfl ?_
  refine Wp_callVg (c_X1_has hC k0 _) YV_X1_has ml_X1_68 hC rfl dX1_waysToRead_4 (by omega) (by decide) (by omega) (by omega) rfl rfl (Nat.le_of_ble_eq_true rfl) ?_
  refine Wp_ifeq_b (tgt := 55) dX1_waysToRead_7 (by decide) (fun c_7 => absurd c_7 (by rw [hmd, has_nI (by omega), decide_eq_true hK]; decide)) (fun c_7 => ?_)
  refine Wp_aload_n dX1_waysToRead_10 rfl 1 rfl ?_
  refine Wp_getr fk_X1_9 hC rfl dX1_waysToRead_11 ?_
  refine Wp_iload_n dX1_waysToRead_14 rfl 2 rfl ?_
  refine Wp_ild (n := K) (y := (nI ((st K + 0)))) hss rfl (by omega) (by decide) (hst K (by omega)).1 dX1_waysToRead_15 ?_
  refine Wp_istore (lv' := [(4, .int (nI ((st K + 0)))), (3, .int (nI (1))), (0, .ref (ad (ct))), (1, .int (nI (K))), (2, .int (nI (e)))]) dX1_waysToRead_16 (by decide) rfl ?_
  exact lp_X1_waysToRead hC hss hrw hB hc hz hk b k0 fg hmd hK he 9 0 (by omega) (by have := (hst (K + 1) (by omega)).2; omega)
def orw (col siz ln : Nat → Nat) (lt : Nat → Nat → Nat) (row : Nat → Nat) (nb n e : Nat) : Bool := decide (∀ i, i < n → lkd (tld col siz ln lt e (row i)) nb = 1)
theorem lp_X1_isReadOneWay {E : wE} {S : List wK} {ad : Nat → Nat} {V : wV} {ct ss rp rw h fw nx c z k : Nat} (hC : S[ct]? = some (.inl (1, [none, none, some (some ss), some (some rp), some (some rw), none, none, some (some h), some (some fw), some (some nx)]))) (hrw : S[rw]? = some (.inr (.inl (false, 8)))) (hB : S[h]? = some (.inl (0, [some (some c), some (some z), some (some k), none, none]))) (hc : S[c]? = some (.inr (.inl (false, 8)))) (hz : S[z]? = some (.inr (.inl (false, 8)))) (hk : S[k]? = some (.inr (.inl (false, 10)))) {nb : Nat} {ln : Nat → Nat} {lt : Nat → Nat → Nat} (b : BK V h k nb ln lt) {n pl : Nat} {row : Nat → Nat} (w0 : RW V ct rw n pl nb row) {col siz : Nat → Nat} (fg : FG V c z col siz) {e : Nat} (he : e ≤ 9)  : ∀ (m : Nat) (i : Nat), i ≤ n → n < i + m → (∀ t, t < i → lkd (tld col siz ln lt e (row t)) nb = 1) → Wp E mX1_isReadOneWay (w_R 4 0 0) (w_i S ad (fun r V' => r = bI (orw col siz ln lt row nb n e) ∧ V' = V)) 0 0 0 0 2 [(2, .int (nI (i))), (0, .ref (ad (ct))), (1, .int (nI (e)))] [] S ad V := by
  obtain ⟨w1, w2, w3, w4, w5⟩ := w0
  have hnb := b.2.1
  intro m
  induction m with
  | zero => intro i hi hm hv; omega
  | succ m ih =>
    intro i hi hm hv
    refine Wp_iload_n dX1_isReadOneWay_2 rfl 0 rfl ?_
    refine Wp_aload_n dX1_isReadOneWay_3 rfl 1 rfl ?_
    refine Wp_get (x := (nI (n))) fk_X1_42 hC rfl w1 dX1_isReadOneWay_4 ?_
    refine Wp_icmp_ge (tgt := 36) dX1_isReadOneWay_7 (by decide) (nI_toInt (by omega)) (nI_toInt (by omega)) (fun c_7 => ?_) (fun c_7 => ?_)
    · refine Wp_iconst (v := (nI (1))) dX1_isReadOneWay_36 (by decide) ?_
      exact Wp_zret (b := true) rfl rfl ⟨rfl, rfl, _, rfl, ⟨congrArg bI (decide_eq_true (fun t ht => hv t (by omega))).symm, rfl⟩⟩ (Nat.le_refl _) (Nat.le_refl _) dX1_isReadOneWay_37
    · have hle := lkd_le (tld col siz ln lt e (row i)) nb
      refine Wp_aload_n dX1_isReadOneWay_10 rfl 1 rfl ?_
      refine Wp_getr fk_X1_31 hC rfl dX1_isReadOneWay_11 ?_
      refine Wp_aload_n dX1_isReadOneWay_14 rfl 1 rfl ?_
      refine Wp_getr fk_X1_22 hC rfl dX1_isReadOneWay_15 ?_
      refine Wp_iload_n dX1_isReadOneWay_18 rfl 0 rfl ?_
      refine Wp_ild (n := i) (y := (nI (row i))) hrw rfl (by omega) (by decide) (w5 i (by omega)).1 dX1_isReadOneWay_19 ?_
      refine Wp_iload_n dX1_isReadOneWay_20 rfl 2 rfl ?_
      refine Wp_callVg (c_X0_likenesses hB hc hz hk b fg (w5 i (by omega)).2 he) YV_X0_likenesses ml_X1_75 hB rfl dX1_isReadOneWay_21 (by omega) (by decide) (by omega) (by omega) rfl rfl (Nat.le_of_ble_eq_true rfl) ?_
      refine Wp_iconst (v := (nI (1))) dX1_isReadOneWay_24 (by decide) ?_
      refine Wp_icmp_eq (tgt := 30) dX1_isReadOneWay_25 (by decide) (nI_toInt (by omega)) (nI_toInt (by omega)) (fun c_25 => ?_) (fun c_25 => ?_)
      · refine Wp_iinc (x := (nI ((i + 1)))) (lv' := [(2, .int (nI ((i + 1)))), (0, .ref (ad (ct))), (1, .int (nI (e)))]) dX1_isReadOneWay_30 0 rfl (w_inc1 _) (by decide) rfl ?_
        refine Wp_goto (tgt := 2) dX1_isReadOneWay_33 (by decide) ?_
        exact ih (i + 1) (by omega) (by omega) (fun t ht => by
          rcases Nat.lt_or_ge t i with q | q
          · exact hv t q
          · rw [show t = i by omega]; omega)
      · refine Wp_iconst (v := (nI (0))) dX1_isReadOneWay_28 (by decide) ?_
        exact Wp_zret (b := false) rfl rfl ⟨rfl, rfl, _, rfl, ⟨congrArg bI (decide_eq_false (fun w => by have := w i (by omega); omega)).symm, rfl⟩⟩ (Nat.le_refl _) (Nat.le_refl _) dX1_isReadOneWay_29
theorem c_X1_isReadOneWay {E : wE} {S : List wK} {ad : Nat → Nat} {V : wV} {ct ss rp rw h fw nx c z k : Nat} (hC : S[ct]? = some (.inl (1, [none, none, some (some ss), some (some rp), some (some rw), none, none, some (some h), some (some fw), some (some nx)]))) (hrw : S[rw]? = some (.inr (.inl (false, 8)))) (hB : S[h]? = some (.inl (0, [some (some c), some (some z), some (some k), none, none]))) (hc : S[c]? = some (.inr (.inl (false, 8)))) (hz : S[z]? = some (.inr (.inl (false, 8)))) (hk : S[k]? = some (.inr (.inl (false, 10)))) {nb : Nat} {ln : Nat → Nat} {lt : Nat → Nat → Nat} (b : BK V h k nb ln lt) {n pl : Nat} {row : Nat → Nat} (w0 : RW V ct rw n pl nb row) {col siz : Nat → Nat} (fg : FG V c z col siz) {e : Nat} (he : e ≤ 9)  : w_C E mX1_isReadOneWay (w_R 4 0 0) 0 0 [.ref (ad (ct)), .int (nI (e))] S ad V (w_i S ad (fun r V' => r = bI (orw col siz ln lt row nb n e) ∧ V' = V)) := by
  refine w_C.of (by decide) (Nat.le_of_ble_eq_true rfl) ?_
  show Wp _ _ _ _ _ _ _ _ _ [(0, .ref (ad (ct))), (1, .int (nI (e)))] [] S ad V
  refine Wp_iconst (v := (nI (0))) dX1_isReadOneWay_0 (by decide) ?_
  refine Wp_istore_n (lv' := [(2, .int (nI (0))), (0, .ref (ad (ct))), (1, .int (nI (e)))]) dX1_isReadOneWay_1 rfl (by decide) rfl ?_
  exact lp_X1_isReadOneWay hC hrw hB hc hz hk b w0 fg he (n + 1) 0 (by omega) (by omega) (fun t ht => by omega)
theorem frt_s {p : Nat → Bool} {d : Nat} (h : 0 < d) : frt p d = if p d = true then d else frt p (d - 1) := by
  obtain ⟨e, rfl⟩ : ∃ e, d = e + 1 := ⟨d - 1, by omega⟩
  rfl
theorem lp_X1_farthest {E : wE} {S : List wK} {ad : Nat → Nat} {V : wV} {ct ss rp rw h fw nx c z k : Nat} (hC : S[ct]? = some (.inl (1, [none, none, some (some ss), some (some rp), some (some rw), none, none, some (some h), some (some fw), some (some nx)]))) (hrw : S[rw]? = some (.inr (.inl (false, 8)))) (hB : S[h]? = some (.inl (0, [some (some c), some (some z), some (some k), none, none]))) (hc : S[c]? = some (.inr (.inl (false, 8)))) (hz : S[z]? = some (.inr (.inl (false, 8)))) (hk : S[k]? = some (.inr (.inl (false, 10)))) {nb : Nat} {ln : Nat → Nat} {lt : Nat → Nat → Nat} (b : BK V h k nb ln lt) {n pl : Nat} {row : Nat → Nat} (w0 : RW V ct rw n pl nb row) {col siz : Nat → Nat} (fg : FG V c z col siz)  : ∀ (m : Nat) (d : Nat), d ≤ 9 → d < m → frt (orw col siz ln lt row nb n) 9 = frt (orw col siz ln lt row nb n) d → Wp E mX1_farthest (w_R 5 0 0) (w_i S ad (fun r V' => r = nI (frt (orw col siz ln lt row nb n) 9) ∧ V' = V)) 0 0 0 0 3 [(1, .int (nI (d))), (0, .ref (ad (ct)))] [] S ad V := by
  intro m
  induction m with
  | zero => intro d hd hm hE; omega
  | succ m ih =>
    intro d hd hm hE
    refine Wp_iload_n dX1_farthest_3 rfl 0 rfl ?_
    refine Wp_iconst (v := (nI (1))) dX1_farthest_4 (by decide) ?_
    refine Wp_icmp_lt (tgt := 24) dX1_farthest_5 (by decide) (nI_toInt (by omega)) (nI_toInt (by omega)) (fun c_5 => ?_) (fun c_5 => ?_)
    · refine Wp_iconst (v := (nI (0))) dX1_farthest_24 (by decide) ?_
      exact Wp_iret rfl ⟨rfl, rfl, _, rfl, ⟨by rw [hE, show d = 0 by omega]; rfl, rfl⟩⟩ (Nat.le_refl _) (Nat.le_refl _) dX1_farthest_25
    · refine Wp_aload_n dX1_farthest_8 rfl 1 rfl ?_
      refine Wp_iload_n dX1_farthest_9 rfl 0 rfl ?_
      refine Wp_callVg (c_X1_isReadOneWay hC hrw hB hc hz hk b w0 fg hd) YV_X1_isReadOneWay ml_X1_81 hC rfl dX1_farthest_10 (by omega) (by decide) (by omega) (by omega) rfl rfl (Nat.le_of_ble_eq_true rfl) ?_
      refine Wp_ifeq_b (tgt := 18) dX1_farthest_13 (by decide) (fun c_13 => ?_) (fun c_13 => ?_)
      · refine Wp_iinc (x := (nI ((d - 1)))) (lv' := [(1, .int (nI ((d - 1)))), (0, .ref (ad (ct)))]) dX1_farthest_18 0 rfl (w_dec1 (by omega)) (by decide) rfl ?_
        refine Wp_goto (tgt := 3) dX1_farthest_21 (by decide) ?_
        exact ih (d - 1) (by omega) (by omega) (by rw [hE, frt_s (by omega), if_neg (by rw [c_13]; decide)])
      · refine Wp_iload_n dX1_farthest_16 rfl 0 rfl ?_
        exact Wp_iret rfl ⟨rfl, rfl, _, rfl, ⟨by rw [hE, frt_s (by omega), if_pos c_13], rfl⟩⟩ (Nat.le_refl _) (Nat.le_refl _) dX1_farthest_17
theorem c_X1_farthest {E : wE} {S : List wK} {ad : Nat → Nat} {V : wV} {ct ss rp rw h fw nx c z k : Nat} (hC : S[ct]? = some (.inl (1, [none, none, some (some ss), some (some rp), some (some rw), none, none, some (some h), some (some fw), some (some nx)]))) (hrw : S[rw]? = some (.inr (.inl (false, 8)))) (hB : S[h]? = some (.inl (0, [some (some c), some (some z), some (some k), none, none]))) (hc : S[c]? = some (.inr (.inl (false, 8)))) (hz : S[z]? = some (.inr (.inl (false, 8)))) (hk : S[k]? = some (.inr (.inl (false, 10)))) {nb : Nat} {ln : Nat → Nat} {lt : Nat → Nat → Nat} (b : BK V h k nb ln lt) {n pl : Nat} {row : Nat → Nat} (w0 : RW V ct rw n pl nb row) {col siz : Nat → Nat} (fg : FG V c z col siz)  : w_C E mX1_farthest (w_R 5 0 0) 0 0 [.ref (ad (ct))] S ad V (w_i S ad (fun r V' => r = nI (frt (orw col siz ln lt row nb n) 9) ∧ V' = V)) := by
  refine w_C.of (by decide) (Nat.le_of_ble_eq_true rfl) ?_
  show Wp _ _ _ _ _ _ _ _ _ [(0, .ref (ad (ct)))] [] S ad V
  refine Wp_bipush (v := (nI (9))) dX1_farthest_0 (by decide) ?_
  refine Wp_istore_n (lv' := [(1, .int (nI (9))), (0, .ref (ad (ct)))]) dX1_farthest_2 rfl (by decide) rfl ?_
  exact lp_X1_farthest hC hrw hB hc hz hk b w0 fg 10 9 (by omega) (by omega) rfl
def SN (V : wV) (sn sh sg q : Nat) (sk sv : Nat → Nat) : Prop := V sn 2 = nI q ∧ q ≤ 6 ∧ ∀ i, i < q → V sh i = nI (sk i) ∧ V sg i = nI (sv i) ∧ sk i < 8 ∧ sv i < 8
theorem SN.of {V V' : wV} {sn sh sg q : Nat} {sk sv : Nat → Nat} (h : SN V sn sh sg q sk sv) (h1 : V' sn = V sn) (h2 : V' sh = V sh) (h3 : V' sg = V sg) : SN V' sn sh sg q sk sv := by
  unfold SN; rw [h1, h2, h3]; exact h
theorem c_X5_note {E : wE} {S : List wK} {ad : Nat → Nat} {V : wV} {sn sh sg : Nat} (hSn : S[sn]? = some (.inl (5, [some (some sh), some (some sg), none]))) (hsh : S[sh]? = some (.inr (.inl (false, 6)))) (hsg : S[sg]? = some (.inr (.inl (false, 6)))) {q : Nat} {sk sv : Nat → Nat} (s0 : SN V sn sh sg q sk sv) (hq : q < 6) (n2 : sh ≠ sg) {k v : Nat} (hk8 : k < 8) (hv8 : v < 8)  : w_C E mX5_note (w_R 0 0 0) 0 0 [.ref (ad (sn)), .int (nI (k)), .int (nI (v))] S ad V (w_v S ad (fun V' => SN V' sn sh sg (q + 1) (va_up sk q k) (va_up sv q v) ∧ ∀ j, j ≠ sn → j ≠ sh → j ≠ sg → V' j = V j)) := by
  refine w_C.of (by decide) (Nat.le_of_ble_eq_true rfl) ?_
  show Wp _ _ _ _ _ _ _ _ _ [(0, .ref (ad (sn))), (1, .int (nI (k))), (2, .int (nI (v)))] [] S ad V
  refine Wp_aload_n dX5_note_0 rfl 0 rfl ?_
  refine Wp_get (x := (nI (q))) fk_X5_18 hSn rfl s0.1 dX5_note_1 ?_
  refine Wp_bipush (v := (nI (6))) dX5_note_4 (by decide) ?_
  refine Wp_icmp_ge (tgt := 39) dX5_note_6 (by decide) (nI_toInt (by omega)) (nI_toInt (by omega)) (fun c_6 => absurd c_6 (by omega)) (fun c_6 => ?_)
  refine Wp_aload_n dX5_note_9 rfl 0 rfl ?_
  refine Wp_getr fk_X5_9 hSn rfl dX5_note_10 ?_
  refine Wp_aload_n dX5_note_13 rfl 0 rfl ?_
  refine Wp_get (x := (nI (q))) fk_X5_18 hSn rfl s0.1 dX5_note_14 ?_
  refine Wp_iload_n dX5_note_17 rfl 1 rfl ?_
  refine Wp_ist (n := q) hsh rfl (by omega) (by decide) dX5_note_18 ?_
  refine Wp_aload_n dX5_note_19 rfl 0 rfl ?_
  refine Wp_getr fk_X5_15 hSn rfl dX5_note_20 ?_
  refine Wp_aload_n dX5_note_23 rfl 0 rfl ?_
  refine Wp_get (x := (nI (q))) fk_X5_18 hSn rfl ((up2_i (w_ne hSn hsh (by simp))).trans s0.1) dX5_note_24 ?_
  refine Wp_iload_n dX5_note_27 rfl 2 rfl ?_
  refine Wp_ist (n := q) hsg rfl (by omega) (by decide) dX5_note_28 ?_
  refine Wp_aload_n dX5_note_29 rfl 0 rfl ?_
  refine Wp_dup dX5_note_30 rfl ?_
  refine Wp_get (x := (nI (q))) fk_X5_18 hSn rfl ((up2_i (w_ne hSn hsg (by simp))).trans ((up2_i (w_ne hSn hsh (by simp))).trans s0.1)) dX5_note_31 ?_
  refine Wp_iconst (v := (nI (1))) dX5_note_34 (by decide) ?_
  refine Wp_iadd (z := (nI ((q + 1)))) dX5_note_35 (nI_add _ _) ?_
  refine Wp_put fk_X5_18 hSn rfl rfl rfl dX5_note_36 ?_
  exact Wp_vret rfl ⟨rfl, rfl, rfl, by
    refine ⟨⟨by rw [up2_s], by omega, fun i hi => ?_⟩, fun j a1 a2 a3 => by simp [up2, a1, a2, a3]⟩
    rw [up2_i (w_ne hsh hSn (by simp)), up2_i (w_ne hsg hSn (by simp))]
    by_cases z : i = q
    · subst z; rw [up2_i n2, up2_s, up2_s]; simp [va_up, hk8, hv8]
    · rw [up2_k z, up2_k z, up2_k z, up2_k z]; simp only [va_up, if_neg z]; exact s0.2.2 i (by omega)⟩ (Nat.le_refl _) (Nat.le_refl _) dX5_note_39
end
section
/-! what was seen: all fits -/
theorem lp_X5_allFit {E : wE} {S : List wK} {ad : Nat → Nat} {V : wV} {ct ss rp rw h fw nx rt rl c z k sn sh sg : Nat} (hSn : S[sn]? = some (.inl (5, [some (some sh), some (some sg), none]))) (hsh : S[sh]? = some (.inr (.inl (false, 6)))) (hsg : S[sg]? = some (.inr (.inl (false, 6)))) (hC : S[ct]? = some (.inl (1, [none, none, some (some ss), some (some rp), some (some rw), none, none, some (some h), some (some fw), some (some nx)]))) (hss : S[ss]? = some (.inr (.inl (false, 9)))) (hrw : S[rw]? = some (.inr (.inl (false, 8)))) (hP : S[rp]? = some (.inl (4, [some (some rt), none, none, some (some rl), none, none, none]))) (hrt : S[rt]? = some (.inr (.inl (false, 7)))) (hrl : S[rl]? = some (.inr (.inl (false, 7)))) (hB : S[h]? = some (.inl (0, [some (some c), some (some z), some (some k), none, none]))) (hk : S[k]? = some (.inr (.inl (false, 10)))) {nb : Nat} {ln : Nat → Nat} {lt : Nat → Nat → Nat} (b : BK V h k nb ln lt) {pl n : Nat} {row : Nat → Nat} {md : Bool} {H : Nat} {st : Nat → Nat} (k0 : CT V ct ss rw pl n nb row (law pl ln lt row) md H st) (n1 : rt ≠ rl) {q : Nat} {sk sv : Nat → Nat} (s0 : SN V sn sh sg q sk sv)  : ∀ (m : Nat) (i : Nat) (V1 : wV), i ≤ q → q < i + m → (∀ t, t < i → thg pl ln lt row md H st (sk t) = sv t) → (∀ j, j ≠ rp → j ≠ rt → j ≠ rl → V1 j = V j) → Wp E mX5_allFit (w_R 5 0 0) (w_i S ad (fun r V' => r = bI (decide (∀ i, i < q → thg pl ln lt row md H st (sk i) = sv i)) ∧ ∀ j, j ≠ rp → j ≠ rt → j ≠ rl → V' j = V j)) 0 0 0 0 2 [(2, .int (nI (i))), (0, .ref (ad (sn))), (1, .ref (ad (ct)))] [] S ad V1 := by
  intro m
  induction m with
  | zero => intro i V1 hi hm hv fr; omega
  | succ m ih =>
    intro i V1 hi hm hv fr
    have s1 := s0.of (fr sn (w_ne hSn hP (by simp)) (w_ne hSn hrt (by simp)) (w_ne hSn hrl (by simp))) (fr sh (w_ne hsh hP (by simp)) (w_ne hsh hrt (by simp)) (w_ne hsh hrl (by simp))) (fr sg (w_ne hsg hP (by simp)) (w_ne hsg hrt (by simp)) (w_ne hsg hrl (by simp)))
    have hq6 := s0.2.1
    refine Wp_iload_n dX5_allFit_2 rfl 0 rfl ?_
    refine Wp_aload_n dX5_allFit_3 rfl 1 rfl ?_
    refine Wp_get (x := (nI (q))) fk_X5_18 hSn rfl s1.1 dX5_allFit_4 ?_
    refine Wp_icmp_ge (tgt := 37) dX5_allFit_7 (by decide) (nI_toInt (by omega)) (nI_toInt (by omega)) (fun c_7 => ?_) (fun c_7 => ?_)
    · refine Wp_iconst (v := (nI (1))) dX5_allFit_37 (by decide) ?_
      exact Wp_zret (b := true) rfl rfl ⟨rfl, rfl, _, rfl, ⟨congrArg bI (decide_eq_true (fun t ht => hv t (by omega))).symm, fr⟩⟩ (Nat.le_refl _) (Nat.le_refl _) dX5_allFit_38
    · have s9 := s1.2.2 i (by omega)
      have b1 : BK V1 h k nb ln lt := b.of (fr h (w_ne hB hP (by simp)) (w_ne hB hrt (by simp)) (w_ne hB hrl (by simp))) (fr k (w_ne hk hP (by simp)) (w_ne hk hrt (by simp)) (w_ne hk hrl (by simp)))
      have k1 := k0.of (fr ct (w_ne hC hP (by simp)) (w_ne hC hrt (by simp)) (w_ne hC hrl (by simp))) (fr ss (w_ne hss hP (by simp)) (w_ne hss hrt (by simp)) (w_ne hss hrl (by simp))) (fr rw (w_ne hrw hP (by simp)) (w_ne hrw hrt (by simp)) (w_ne hrw hrl (by simp)))
      refine Wp_aload_n dX5_allFit_10 rfl 2 rfl ?_
      refine Wp_aload_n dX5_allFit_11 rfl 1 rfl ?_
      refine Wp_getr fk_X5_9 hSn rfl dX5_allFit_12 ?_
      refine Wp_iload_n dX5_allFit_15 rfl 0 rfl ?_
      refine Wp_ild (n := i) (y := (nI (sk i))) hsh rfl (by omega) (by decide) s9.1 dX5_allFit_16 ?_
      refine Wp_callVi (c_X1_thingsOf hC hss hrw hP hrt hrl hB hk b1 k1 n1 (K := sk i) (by omega)) YV_X1_thingsOf ml_X5_22 hC rfl dX5_allFit_17 (by omega) (by decide) (by omega) (by omega) rfl rfl (Nat.le_of_ble_eq_true rfl) (fun r7 V7 hr7 => ?_)
      obtain ⟨e7, ht7, hr8⟩ := hr7
      subst e7
      refine Wp_aload_n dX5_allFit_20 rfl 1 rfl ?_
      refine Wp_getr fk_X5_15 hSn rfl dX5_allFit_21 ?_
      refine Wp_iload_n dX5_allFit_24 rfl 0 rfl ?_
      refine Wp_ild (n := i) (y := (nI (sv i))) hsg rfl (by omega) (by decide) (show V7 sg i = nI (sv i) by rw [hr8 sg (w_ne hsg hP (by simp)) (w_ne hsg hrt (by simp)) (w_ne hsg hrl (by simp))]; exact s9.2.1) dX5_allFit_25 ?_
      refine Wp_icmp_eq (tgt := 31) dX5_allFit_26 (by decide) (nI_toInt (by omega)) (nI_toInt (by omega)) (fun c_26 => ?_) (fun c_26 => ?_)
      · refine Wp_iinc (x := (nI ((i + 1)))) (lv' := [(2, .int (nI ((i + 1)))), (0, .ref (ad (sn))), (1, .ref (ad (ct)))]) dX5_allFit_31 0 rfl (w_inc1 _) (by decide) rfl ?_
        refine Wp_goto (tgt := 2) dX5_allFit_34 (by decide) ?_
        exact ih (i + 1) V7 (by omega) (by omega) (fun t ht => by
          rcases Nat.lt_or_ge t i with z1 | z1
          · exact hv t z1
          · rw [show t = i by omega]; omega) (fun j a1 a2 a3 => by rw [hr8 j a1 a2 a3, fr j a1 a2 a3])
      · refine Wp_iconst (v := (nI (0))) dX5_allFit_29 (by decide) ?_
        exact Wp_zret (b := false) rfl rfl ⟨rfl, rfl, _, rfl, ⟨congrArg bI (decide_eq_false (fun w => by have := w i (by omega); omega)).symm, fun j a1 a2 a3 => by rw [hr8 j a1 a2 a3, fr j a1 a2 a3]⟩⟩ (Nat.le_refl _) (Nat.le_refl _) dX5_allFit_30
theorem c_X5_allFit {E : wE} {S : List wK} {ad : Nat → Nat} {V : wV} {ct ss rp rw h fw nx rt rl c z k sn sh sg : Nat} (hSn : S[sn]? = some (.inl (5, [some (some sh), some (some sg), none]))) (hsh : S[sh]? = some (.inr (.inl (false, 6)))) (hsg : S[sg]? = some (.inr (.inl (false, 6)))) (hC : S[ct]? = some (.inl (1, [none, none, some (some ss), some (some rp), some (some rw), none, none, some (some h), some (some fw), some (some nx)]))) (hss : S[ss]? = some (.inr (.inl (false, 9)))) (hrw : S[rw]? = some (.inr (.inl (false, 8)))) (hP : S[rp]? = some (.inl (4, [some (some rt), none, none, some (some rl), none, none, none]))) (hrt : S[rt]? = some (.inr (.inl (false, 7)))) (hrl : S[rl]? = some (.inr (.inl (false, 7)))) (hB : S[h]? = some (.inl (0, [some (some c), some (some z), some (some k), none, none]))) (hk : S[k]? = some (.inr (.inl (false, 10)))) {nb : Nat} {ln : Nat → Nat} {lt : Nat → Nat → Nat} (b : BK V h k nb ln lt) {pl n : Nat} {row : Nat → Nat} {md : Bool} {H : Nat} {st : Nat → Nat} (k0 : CT V ct ss rw pl n nb row (law pl ln lt row) md H st) (n1 : rt ≠ rl) {q : Nat} {sk sv : Nat → Nat} (s0 : SN V sn sh sg q sk sv)  : w_C E mX5_allFit (w_R 5 0 0) 0 0 [.ref (ad (sn)), .ref (ad (ct))] S ad V (w_i S ad (fun r V' => r = bI (decide (∀ i, i < q → thg pl ln lt row md H st (sk i) = sv i)) ∧ ∀ j, j ≠ rp → j ≠ rt → j ≠ rl → V' j = V j)) := by
  refine w_C.of (by decide) (Nat.le_of_ble_eq_true rfl) ?_
  show Wp _ _ _ _ _ _ _ _ _ [(0, .ref (ad (sn))), (1, .ref (ad (ct)))] [] S ad V
  refine Wp_iconst (v := (nI (0))) dX5_allFit_0 (by decide) ?_
  refine Wp_istore_n (lv' := [(2, .int (nI (0))), (0, .ref (ad (sn))), (1, .ref (ad (ct)))]) dX5_allFit_1 rfl (by decide) rfl ?_
  exact lp_X5_allFit hSn hsh hsg hC hss hrw hP hrt hrl hB hk b k0 n1 s0 (q + 1) 0 V (by omega) (by omega) (fun t ht => by omega) (fun _ _ _ _ => rfl)
end
