section
-- ===== PART A: goes FIRST, ahead of the names: the tables' words, and 'selects' of the private methods out of them =====
/-- a private method of a class that the tables say can be made, by its rows of tables_1 -/
def lw_okq (q : MethodName × Nat) : Prop := (q.1.cls ≠ "java/lang/invoke/MethodHandle" ∧ q.1.cls ≠ "java/lang/invoke/VarHandle") ∧ Cond.instantiable q.1.cls q.2 ∈ tables_1 ∧ Cond.privateMethod q.1 ∈ tables_1 ∧ Cond.instanceMethod q.1 ∈ tables_1
theorem lw_p0 : lw_okq (⟨"CleaningBench", "found", "(I)I"⟩, 6) := ⟨⟨by decide +kernel, by decide +kernel⟩, List.mem_of_getElem? (i := 14) (by decide +kernel), List.mem_of_getElem? (i := 306) (by decide +kernel), List.mem_of_getElem? (i := 307) (by decide +kernel)⟩
theorem lw_p1 : lw_okq (⟨"CleaningBench", "faultOfTable", "(I)I"⟩, 6) := ⟨⟨by decide +kernel, by decide +kernel⟩, List.mem_of_getElem? (i := 14) (by decide +kernel), List.mem_of_getElem? (i := 321) (by decide +kernel), List.mem_of_getElem? (i := 322) (by decide +kernel)⟩
theorem lw_p2 : lw_okq (⟨"CleaningBench", "faultOfCell", "(II)I"⟩, 6) := ⟨⟨by decide +kernel, by decide +kernel⟩, List.mem_of_getElem? (i := 14) (by decide +kernel), List.mem_of_getElem? (i := 336) (by decide +kernel), List.mem_of_getElem? (i := 337) (by decide +kernel)⟩
theorem lw_p3 : lw_okq (⟨"CleaningBench", "isRow", "(I)Z"⟩, 6) := ⟨⟨by decide +kernel, by decide +kernel⟩, List.mem_of_getElem? (i := 14) (by decide +kernel), List.mem_of_getElem? (i := 340) (by decide +kernel), List.mem_of_getElem? (i := 341) (by decide +kernel)⟩
theorem lw_p4 : lw_okq (⟨"CleaningBench", "faultOfColumn", "(II)I"⟩, 6) := ⟨⟨by decide +kernel, by decide +kernel⟩, List.mem_of_getElem? (i := 14) (by decide +kernel), List.mem_of_getElem? (i := 344) (by decide +kernel), List.mem_of_getElem? (i := 345) (by decide +kernel)⟩
theorem lw_p5 : lw_okq (⟨"CleaningBench", "faultOfColumnIn", "(II)I"⟩, 6) := ⟨⟨by decide +kernel, by decide +kernel⟩, List.mem_of_getElem? (i := 14) (by decide +kernel), List.mem_of_getElem? (i := 391) (by decide +kernel), List.mem_of_getElem? (i := 392) (by decide +kernel)⟩
theorem lw_p6 : lw_okq (⟨"CleaningBench", "isLaw", "(I)Z"⟩, 6) := ⟨⟨by decide +kernel, by decide +kernel⟩, List.mem_of_getElem? (i := 14) (by decide +kernel), List.mem_of_getElem? (i := 410) (by decide +kernel), List.mem_of_getElem? (i := 411) (by decide +kernel)⟩
theorem lw_p7 : lw_okq (⟨"CleaningBench", "faultOfPart", "(II)I"⟩, 6) := ⟨⟨by decide +kernel, by decide +kernel⟩, List.mem_of_getElem? (i := 14) (by decide +kernel), List.mem_of_getElem? (i := 627) (by decide +kernel), List.mem_of_getElem? (i := 628) (by decide +kernel)⟩
theorem lw_p8 : lw_okq (⟨"CleaningBench", "isPart", "(I)Z"⟩, 6) := ⟨⟨by decide +kernel, by decide +kernel⟩, List.mem_of_getElem? (i := 14) (by decide +kernel), List.mem_of_getElem? (i := 631) (by decide +kernel), List.mem_of_getElem? (i := 632) (by decide +kernel)⟩
theorem lw_p9 : lw_okq (⟨"CleaningBench", "timesStanding", "()I"⟩, 6) := ⟨⟨by decide +kernel, by decide +kernel⟩, List.mem_of_getElem? (i := 14) (by decide +kernel), List.mem_of_getElem? (i := 680) (by decide +kernel), List.mem_of_getElem? (i := 681) (by decide +kernel)⟩
theorem lw_p10 : lw_okq (⟨"CleaningBench", "manyTables", "()I"⟩, 6) := ⟨⟨by decide +kernel, by decide +kernel⟩, List.mem_of_getElem? (i := 14) (by decide +kernel), List.mem_of_getElem? (i := 706) (by decide +kernel), List.mem_of_getElem? (i := 707) (by decide +kernel)⟩
theorem lw_p11 : lw_okq (⟨"CleaningBenchModel", "finds", "(I)I"⟩, 36) := ⟨⟨by decide +kernel, by decide +kernel⟩, List.mem_of_getElem? (i := 710) (by decide +kernel), List.mem_of_getElem? (i := 833) (by decide +kernel), List.mem_of_getElem? (i := 834) (by decide +kernel)⟩
theorem lw_p12 : lw_okq (⟨"CleaningBenchModel", "lack", "(I)I"⟩, 36) := ⟨⟨by decide +kernel, by decide +kernel⟩, List.mem_of_getElem? (i := 710) (by decide +kernel), List.mem_of_getElem? (i := 841) (by decide +kernel), List.mem_of_getElem? (i := 842) (by decide +kernel)⟩
theorem lw_p13 : lw_okq (⟨"CleaningBenchModel", "noRow", "(I)Z"⟩, 36) := ⟨⟨by decide +kernel, by decide +kernel⟩, List.mem_of_getElem? (i := 710) (by decide +kernel), List.mem_of_getElem? (i := 850) (by decide +kernel), List.mem_of_getElem? (i := 851) (by decide +kernel)⟩
theorem lw_p14 : lw_okq (⟨"CleaningBenchModel", "noColumn", "(II)Z"⟩, 36) := ⟨⟨by decide +kernel, by decide +kernel⟩, List.mem_of_getElem? (i := 710) (by decide +kernel), List.mem_of_getElem? (i := 854) (by decide +kernel), List.mem_of_getElem? (i := 855) (by decide +kernel)⟩
theorem lw_p15 : lw_okq (⟨"CleaningBenchModel", "add", "(IIIIIJJ)I"⟩, 36) := ⟨⟨by decide +kernel, by decide +kernel⟩, List.mem_of_getElem? (i := 710) (by decide +kernel), List.mem_of_getElem? (i := 896) (by decide +kernel), List.mem_of_getElem? (i := 897) (by decide +kernel)⟩
def lw_privs_1 : List (MethodName × Nat) := [(⟨"CleaningBench", "found", "(I)I"⟩, 6), (⟨"CleaningBench", "faultOfTable", "(I)I"⟩, 6), (⟨"CleaningBench", "faultOfCell", "(II)I"⟩, 6), (⟨"CleaningBench", "isRow", "(I)Z"⟩, 6), (⟨"CleaningBench", "faultOfColumn", "(II)I"⟩, 6), (⟨"CleaningBench", "faultOfColumnIn", "(II)I"⟩, 6), (⟨"CleaningBench", "isLaw", "(I)Z"⟩, 6), (⟨"CleaningBench", "faultOfPart", "(II)I"⟩, 6), (⟨"CleaningBench", "isPart", "(I)Z"⟩, 6), (⟨"CleaningBench", "timesStanding", "()I"⟩, 6), (⟨"CleaningBench", "manyTables", "()I"⟩, 6), (⟨"CleaningBenchModel", "finds", "(I)I"⟩, 36), (⟨"CleaningBenchModel", "lack", "(I)I"⟩, 36), (⟨"CleaningBenchModel", "noRow", "(I)Z"⟩, 36), (⟨"CleaningBenchModel", "noColumn", "(II)Z"⟩, 36), (⟨"CleaningBenchModel", "add", "(IIIIIJJ)I"⟩, 36)]
theorem lw_r1 : ∀ q ∈ lw_privs_1, lw_okq q := List.forall_mem_cons.mpr ⟨lw_p0, List.forall_mem_cons.mpr ⟨lw_p1, List.forall_mem_cons.mpr ⟨lw_p2, List.forall_mem_cons.mpr ⟨lw_p3, List.forall_mem_cons.mpr ⟨lw_p4, List.forall_mem_cons.mpr ⟨lw_p5, List.forall_mem_cons.mpr ⟨lw_p6, List.forall_mem_cons.mpr ⟨lw_p7, List.forall_mem_cons.mpr ⟨lw_p8, List.forall_mem_cons.mpr ⟨lw_p9, List.forall_mem_cons.mpr ⟨lw_p10, List.forall_mem_cons.mpr ⟨lw_p11, List.forall_mem_cons.mpr ⟨lw_p12, List.forall_mem_cons.mpr ⟨lw_p13, List.forall_mem_cons.mpr ⟨lw_p14, List.forall_mem_cons.mpr ⟨lw_p15, fun _ h => absurd h List.not_mem_nil⟩⟩⟩⟩⟩⟩⟩⟩⟩⟩⟩⟩⟩⟩⟩⟩
theorem lw_p16 : lw_okq (⟨"CleaningBenchModel", "noLaw", "(I)Z"⟩, 36) := ⟨⟨by decide +kernel, by decide +kernel⟩, List.mem_of_getElem? (i := 710) (by decide +kernel), List.mem_of_getElem? (i := 908) (by decide +kernel), List.mem_of_getElem? (i := 909) (by decide +kernel)⟩
theorem lw_p17 : lw_okq (⟨"CleaningBenchModel", "findQuarrels", "(I)V"⟩, 36) := ⟨⟨by decide +kernel, by decide +kernel⟩, List.mem_of_getElem? (i := 710) (by decide +kernel), List.mem_of_getElem? (i := 920) (by decide +kernel), List.mem_of_getElem? (i := 921) (by decide +kernel)⟩
theorem lw_p18 : lw_okq (⟨"CleaningBenchModel", "keptSet", "()I"⟩, 36) := ⟨⟨by decide +kernel, by decide +kernel⟩, List.mem_of_getElem? (i := 710) (by decide +kernel), List.mem_of_getElem? (i := 924) (by decide +kernel), List.mem_of_getElem? (i := 925) (by decide +kernel)⟩
theorem lw_p19 : lw_okq (⟨"CleaningBenchModel", "isLeastSum", "(II)Z"⟩, 36) := ⟨⟨by decide +kernel, by decide +kernel⟩, List.mem_of_getElem? (i := 710) (by decide +kernel), List.mem_of_getElem? (i := 931) (by decide +kernel), List.mem_of_getElem? (i := 932) (by decide +kernel)⟩
theorem lw_p20 : lw_okq (⟨"CleaningBenchModel", "isOf", "(III)Z"⟩, 36) := ⟨⟨by decide +kernel, by decide +kernel⟩, List.mem_of_getElem? (i := 710) (by decide +kernel), List.mem_of_getElem? (i := 935) (by decide +kernel), List.mem_of_getElem? (i := 936) (by decide +kernel)⟩
theorem lw_p21 : lw_okq (⟨"CleaningBenchModel", "counts", "(II)Z"⟩, 36) := ⟨⟨by decide +kernel, by decide +kernel⟩, List.mem_of_getElem? (i := 710) (by decide +kernel), List.mem_of_getElem? (i := 939) (by decide +kernel), List.mem_of_getElem? (i := 940) (by decide +kernel)⟩
theorem lw_p22 : lw_okq (⟨"CleaningBenchModel", "isLike", "(IIII)Z"⟩, 36) := ⟨⟨by decide +kernel, by decide +kernel⟩, List.mem_of_getElem? (i := 710) (by decide +kernel), List.mem_of_getElem? (i := 943) (by decide +kernel), List.mem_of_getElem? (i := 944) (by decide +kernel)⟩
theorem lw_p23 : lw_okq (⟨"CleaningBenchModel", "isMore", "(IIII)Z"⟩, 36) := ⟨⟨by decide +kernel, by decide +kernel⟩, List.mem_of_getElem? (i := 710) (by decide +kernel), List.mem_of_getElem? (i := 947) (by decide +kernel), List.mem_of_getElem? (i := 948) (by decide +kernel)⟩
theorem lw_p24 : lw_okq (⟨"CleaningBenchModel", "breaksLaw", "(II)Z"⟩, 36) := ⟨⟨by decide +kernel, by decide +kernel⟩, List.mem_of_getElem? (i := 710) (by decide +kernel), List.mem_of_getElem? (i := 951) (by decide +kernel), List.mem_of_getElem? (i := 952) (by decide +kernel)⟩
theorem lw_p25 : lw_okq (⟨"CleaningBenchModel", "breakOne", "(III)Z"⟩, 36) := ⟨⟨by decide +kernel, by decide +kernel⟩, List.mem_of_getElem? (i := 710) (by decide +kernel), List.mem_of_getElem? (i := 955) (by decide +kernel), List.mem_of_getElem? (i := 956) (by decide +kernel)⟩
theorem lw_p26 : lw_okq (⟨"CleaningBenchModel", "breakTwo", "(III)Z"⟩, 36) := ⟨⟨by decide +kernel, by decide +kernel⟩, List.mem_of_getElem? (i := 710) (by decide +kernel), List.mem_of_getElem? (i := 959) (by decide +kernel), List.mem_of_getElem? (i := 960) (by decide +kernel)⟩
theorem lw_p27 : lw_okq (⟨"CleaningBenchModel", "firstBroken", "(I)I"⟩, 36) := ⟨⟨by decide +kernel, by decide +kernel⟩, List.mem_of_getElem? (i := 710) (by decide +kernel), List.mem_of_getElem? (i := 971) (by decide +kernel), List.mem_of_getElem? (i := 972) (by decide +kernel)⟩
theorem lw_p28 : lw_okq (⟨"CleaningBenchModel", "know", "()V"⟩, 36) := ⟨⟨by decide +kernel, by decide +kernel⟩, List.mem_of_getElem? (i := 710) (by decide +kernel), List.mem_of_getElem? (i := 983) (by decide +kernel), List.mem_of_getElem? (i := 984) (by decide +kernel)⟩
theorem lw_p29 : lw_okq (⟨"CleaningBenchModel", "bestOf", "()I"⟩, 36) := ⟨⟨by decide +kernel, by decide +kernel⟩, List.mem_of_getElem? (i := 710) (by decide +kernel), List.mem_of_getElem? (i := 995) (by decide +kernel), List.mem_of_getElem? (i := 996) (by decide +kernel)⟩
theorem lw_p30 : lw_okq (⟨"CleaningBenchModel", "priceOf", "(I)I"⟩, 36) := ⟨⟨by decide +kernel, by decide +kernel⟩, List.mem_of_getElem? (i := 710) (by decide +kernel), List.mem_of_getElem? (i := 999) (by decide +kernel), List.mem_of_getElem? (i := 1000) (by decide +kernel)⟩
theorem lw_p31 : lw_okq (⟨"CleaningBenchModel", "settled", "(III)J"⟩, 36) := ⟨⟨by decide +kernel, by decide +kernel⟩, List.mem_of_getElem? (i := 710) (by decide +kernel), List.mem_of_getElem? (i := 1023) (by decide +kernel), List.mem_of_getElem? (i := 1024) (by decide +kernel)⟩
def lw_privs_2 : List (MethodName × Nat) := [(⟨"CleaningBenchModel", "noLaw", "(I)Z"⟩, 36), (⟨"CleaningBenchModel", "findQuarrels", "(I)V"⟩, 36), (⟨"CleaningBenchModel", "keptSet", "()I"⟩, 36), (⟨"CleaningBenchModel", "isLeastSum", "(II)Z"⟩, 36), (⟨"CleaningBenchModel", "isOf", "(III)Z"⟩, 36), (⟨"CleaningBenchModel", "counts", "(II)Z"⟩, 36), (⟨"CleaningBenchModel", "isLike", "(IIII)Z"⟩, 36), (⟨"CleaningBenchModel", "isMore", "(IIII)Z"⟩, 36), (⟨"CleaningBenchModel", "breaksLaw", "(II)Z"⟩, 36), (⟨"CleaningBenchModel", "breakOne", "(III)Z"⟩, 36), (⟨"CleaningBenchModel", "breakTwo", "(III)Z"⟩, 36), (⟨"CleaningBenchModel", "firstBroken", "(I)I"⟩, 36), (⟨"CleaningBenchModel", "know", "()V"⟩, 36), (⟨"CleaningBenchModel", "bestOf", "()I"⟩, 36), (⟨"CleaningBenchModel", "priceOf", "(I)I"⟩, 36), (⟨"CleaningBenchModel", "settled", "(III)J"⟩, 36)]
theorem lw_r2 : ∀ q ∈ lw_privs_2, lw_okq q := List.forall_mem_cons.mpr ⟨lw_p16, List.forall_mem_cons.mpr ⟨lw_p17, List.forall_mem_cons.mpr ⟨lw_p18, List.forall_mem_cons.mpr ⟨lw_p19, List.forall_mem_cons.mpr ⟨lw_p20, List.forall_mem_cons.mpr ⟨lw_p21, List.forall_mem_cons.mpr ⟨lw_p22, List.forall_mem_cons.mpr ⟨lw_p23, List.forall_mem_cons.mpr ⟨lw_p24, List.forall_mem_cons.mpr ⟨lw_p25, List.forall_mem_cons.mpr ⟨lw_p26, List.forall_mem_cons.mpr ⟨lw_p27, List.forall_mem_cons.mpr ⟨lw_p28, List.forall_mem_cons.mpr ⟨lw_p29, List.forall_mem_cons.mpr ⟨lw_p30, List.forall_mem_cons.mpr ⟨lw_p31, fun _ h => absurd h List.not_mem_nil⟩⟩⟩⟩⟩⟩⟩⟩⟩⟩⟩⟩⟩⟩⟩⟩
theorem lw_p32 : lw_okq (⟨"CleaningBenchModel", "noPart", "(I)Z"⟩, 36) := ⟨⟨by decide +kernel, by decide +kernel⟩, List.mem_of_getElem? (i := 710) (by decide +kernel), List.mem_of_getElem? (i := 1039) (by decide +kernel), List.mem_of_getElem? (i := 1040) (by decide +kernel)⟩
theorem lw_p33 : lw_okq (⟨"CleaningBenchModel", "standsIn", "(I)Z"⟩, 36) := ⟨⟨by decide +kernel, by decide +kernel⟩, List.mem_of_getElem? (i := 710) (by decide +kernel), List.mem_of_getElem? (i := 1051) (by decide +kernel), List.mem_of_getElem? (i := 1052) (by decide +kernel)⟩
theorem lw_p34 : lw_okq (⟨"CleaningBenchModel", "fitsPart", "(III)Z"⟩, 36) := ⟨⟨by decide +kernel, by decide +kernel⟩, List.mem_of_getElem? (i := 710) (by decide +kernel), List.mem_of_getElem? (i := 1055) (by decide +kernel), List.mem_of_getElem? (i := 1056) (by decide +kernel)⟩
theorem lw_p35 : lw_okq (⟨"CleaningBenchModel", "oftenOf", "()I"⟩, 36) := ⟨⟨by decide +kernel, by decide +kernel⟩, List.mem_of_getElem? (i := 710) (by decide +kernel), List.mem_of_getElem? (i := 1063) (by decide +kernel), List.mem_of_getElem? (i := 1064) (by decide +kernel)⟩
def lw_privs_3 : List (MethodName × Nat) := [(⟨"CleaningBenchModel", "noPart", "(I)Z"⟩, 36), (⟨"CleaningBenchModel", "standsIn", "(I)Z"⟩, 36), (⟨"CleaningBenchModel", "fitsPart", "(III)Z"⟩, 36), (⟨"CleaningBenchModel", "oftenOf", "()I"⟩, 36)]
theorem lw_r3 : ∀ q ∈ lw_privs_3, lw_okq q := List.forall_mem_cons.mpr ⟨lw_p32, List.forall_mem_cons.mpr ⟨lw_p33, List.forall_mem_cons.mpr ⟨lw_p34, List.forall_mem_cons.mpr ⟨lw_p35, fun _ h => absurd h List.not_mem_nil⟩⟩⟩⟩
def lw_privs : List (MethodName × Nat) := lw_privs_1 ++ (lw_privs_2 ++ (lw_privs_3))
def lw_tbl : List Cond := k2_sels lw_privs ++ tables_1
theorem lw_privs_ok : ∀ q ∈ lw_privs, lw_okq q := by
  show ∀ q ∈ lw_privs_1 ++ (lw_privs_2 ++ (lw_privs_3)), lw_okq q
  exact List.forall_mem_append.mpr ⟨lw_r1, List.forall_mem_append.mpr ⟨lw_r2, lw_r3⟩⟩

-- names, fields, the words of the tables by their places: by program (wip/whole/gen01.py) out of the claim's printed texts
def RX0 : String := "CleaningBench$Join"
def TX0 : u_T := fun k => match k with
  | 0 => ("CleaningBench$Join", "p", "I", false)
  | 1 => ("CleaningBench$Join", "c", "I", false)
  | 2 => ("CleaningBench$Join", "q", "I", false)
  | _ => ("CleaningBench$Join", "d", "I", false)
def tyX0 : Nat → FieldType := fun k => match k with
  | 0 => .int
  | 1 => .int
  | 2 => .int
  | _ => .int
abbrev wsX00 : List Cond := u_ws RX0 TX0 4
theorem nmX0 : ∀ a, a < 4 → ∀ b, b < 4 → a ≠ b → (TX0 a).2.1 ≠ (TX0 b).2.1 := by decide +kernel
theorem tyX0_ok : ∀ k, k < 4 → parseFieldDescriptor (TX0 k).2.2.1 = some (tyX0 k) := by decide +kernel
abbrev cX0_init : ByteArray := prog_2_method_1_code
def yX0_init : MethodName := ⟨RX0, "<init>", "()V"⟩
def RX1 : String := "CleaningBench$Law"
def TX1 : u_T := fun k => match k with
  | 0 => ("CleaningBench$Law", "kind", "I", false)
  | 1 => ("CleaningBench$Law", "table", "I", false)
  | 2 => ("CleaningBench$Law", "first", "I", false)
  | 3 => ("CleaningBench$Law", "second", "I", false)
  | 4 => ("CleaningBench$Law", "other", "I", false)
  | 5 => ("CleaningBench$Law", "c", "J", false)
  | 6 => ("CleaningBench$Law", "d", "J", false)
  | _ => ("CleaningBench$Law", "inForce", "Z", false)
def tyX1 : Nat → FieldType := fun k => match k with
  | 0 => .int
  | 1 => .int
  | 2 => .int
  | 3 => .int
  | 4 => .int
  | 5 => .long
  | 6 => .long
  | _ => .boolean
abbrev wsX10 : List Cond := u_ws RX1 TX1 8
theorem nmX1 : ∀ a, a < 8 → ∀ b, b < 8 → a ≠ b → (TX1 a).2.1 ≠ (TX1 b).2.1 := by decide +kernel
theorem tyX1_ok : ∀ k, k < 8 → parseFieldDescriptor (TX1 k).2.2.1 = some (tyX1 k) := by decide +kernel
abbrev cX1_init : ByteArray := prog_3_method_1_code
def yX1_init : MethodName := ⟨RX1, "<init>", "()V"⟩
def RX2 : String := "CleaningBench$Laws"
def TX2 : u_T := fun k => match k with
  | 0 => ("CleaningBench$Laws", "rows", "LCleaningBench$Rows;", true)
  | 1 => ("CleaningBench$Laws", "list", "[LCleaningBench$Law;", true)
  | 2 => ("CleaningBench$Laws", "many", "I", false)
  | 3 => ("CleaningBench$Laws", "found", "[I", true)
  | _ => ("CleaningBench$Laws", "manyFound", "I", false)
def tyX2 : Nat → FieldType := fun k => match k with
  | 0 => .object "CleaningBench$Rows"
  | 1 => .array (.object "CleaningBench$Law")
  | 2 => .int
  | 3 => .array .int
  | _ => .int
abbrev wsX20 : List Cond := u_ws RX2 TX2 5
theorem nmX2 : ∀ a, a < 5 → ∀ b, b < 5 → a ≠ b → (TX2 a).2.1 ≠ (TX2 b).2.1 := by decide +kernel
theorem tyX2_ok : ∀ k, k < 5 → parseFieldDescriptor (TX2 k).2.2.1 = some (tyX2 k) := by decide +kernel
abbrev cX2_init : ByteArray := prog_4_method_1_code
def yX2_init : MethodName := ⟨RX2, "<init>", "(LCleaningBench$Rows;)V"⟩
abbrev cX2_add : ByteArray := prog_4_method_2_code
def yX2_add : MethodName := ⟨RX2, "add", "(II)LCleaningBench$Law;"⟩
abbrev cX2_leastBroken : ByteArray := prog_4_method_3_code
def yX2_leastBroken : MethodName := ⟨RX2, "leastBroken", "(I)I"⟩
abbrev cX2_find : ByteArray := prog_4_method_4_code
def yX2_find : MethodName := ⟨RX2, "find", "(LCleaningBench$Law;I)V"⟩
abbrev cX2_addFound : ByteArray := prog_4_method_5_code
def yX2_addFound : MethodName := ⟨RX2, "addFound", "(I)V"⟩
abbrev cX2_findSingles : ByteArray := prog_4_method_6_code
def yX2_findSingles : MethodName := ⟨RX2, "findSingles", "(LCleaningBench$Law;I)V"⟩
abbrev cX2_quarrelsAlone : ByteArray := prog_4_method_7_code
def yX2_quarrelsAlone : MethodName := ⟨RX2, "quarrelsAlone", "(LCleaningBench$Law;LCleaningBench$Row;)Z"⟩
abbrev cX2_findUnhelped : ByteArray := prog_4_method_8_code
def yX2_findUnhelped : MethodName := ⟨RX2, "findUnhelped", "(LCleaningBench$Law;I)V"⟩
abbrev cX2_findPairs : ByteArray := prog_4_method_9_code
def yX2_findPairs : MethodName := ⟨RX2, "findPairs", "(LCleaningBench$Law;I)V"⟩
abbrev cX2_quarrelTogether : ByteArray := prog_4_method_10_code
def yX2_quarrelTogether : MethodName := ⟨RX2, "quarrelTogether", "(LCleaningBench$Law;LCleaningBench$Row;LCleaningBench$Row;)Z"⟩
abbrev cX2_areNearer : ByteArray := prog_4_method_11_code
def yX2_areNearer : MethodName := ⟨RX2, "areNearer", "(JJJ)Z"⟩
abbrev cX2_findSums : ByteArray := prog_4_method_12_code
def yX2_findSums : MethodName := ⟨RX2, "findSums", "(LCleaningBench$Law;I)V"⟩
abbrev cX2_isLeastSum : ByteArray := prog_4_method_13_code
def yX2_isLeastSum : MethodName := ⟨RX2, "isLeastSum", "(LCleaningBench$Law;II)Z"⟩
def RX3 : String := "CleaningBench$Mendings"
def TX3 : u_T := fun k => match k with
  | 0 => ("CleaningBench$Mendings", "rows", "LCleaningBench$Rows;", true)
  | 1 => ("CleaningBench$Mendings", "laws", "LCleaningBench$Laws;", true)
  | 2 => ("CleaningBench$Mendings", "least", "[I", true)
  | 3 => ("CleaningBench$Mendings", "many", "I", false)
  | 4 => ("CleaningBench$Mendings", "kept", "I", false)
  | 5 => ("CleaningBench$Mendings", "broken", "[Z", true)
  | _ => ("CleaningBench$Mendings", "covers", "[Z", true)
def tyX3 : Nat → FieldType := fun k => match k with
  | 0 => .object "CleaningBench$Rows"
  | 1 => .object "CleaningBench$Laws"
  | 2 => .array .int
  | 3 => .int
  | 4 => .int
  | 5 => .array .boolean
  | _ => .array .boolean
abbrev wsX30 : List Cond := u_ws RX3 TX3 7
theorem nmX3 : ∀ a, a < 7 → ∀ b, b < 7 → a ≠ b → (TX3 a).2.1 ≠ (TX3 b).2.1 := by decide +kernel
theorem tyX3_ok : ∀ k, k < 7 → parseFieldDescriptor (TX3 k).2.2.1 = some (tyX3 k) := by decide +kernel
abbrev cX3_init : ByteArray := prog_5_method_1_code
def yX3_init : MethodName := ⟨RX3, "<init>", "(LCleaningBench$Rows;LCleaningBench$Laws;)V"⟩
abbrev cX3_find : ByteArray := prog_5_method_2_code
def yX3_find : MethodName := ⟨RX3, "find", "()V"⟩
abbrev cX3_isMoreThanOne : ByteArray := prog_5_method_3_code
def yX3_isMoreThanOne : MethodName := ⟨RX3, "isMoreThanOne", "(I)Z"⟩
abbrev cX3_findBroken : ByteArray := prog_5_method_4_code
def yX3_findBroken : MethodName := ⟨RX3, "findBroken", "()V"⟩
abbrev cX3_breakAmong : ByteArray := prog_5_method_5_code
def yX3_breakAmong : MethodName := ⟨RX3, "breakAmong", "(LCleaningBench$Law;)V"⟩
abbrev cX3_breakWithout : ByteArray := prog_5_method_6_code
def yX3_breakWithout : MethodName := ⟨RX3, "breakWithout", "(II)V"⟩
abbrev cX3_leftBy : ByteArray := prog_5_method_7_code
def yX3_leftBy : MethodName := ⟨RX3, "leftBy", "(I)I"⟩
abbrev cX3_cheapest : ByteArray := prog_5_method_8_code
def yX3_cheapest : MethodName := ⟨RX3, "cheapest", "()I"⟩
def RX4 : String := "CleaningBench$Part"
def TX4 : u_T := fun k => match k with
  | 0 => ("CleaningBench$Part", "told", "[Z", true)
  | 1 => ("CleaningBench$Part", "numbers", "[J", true)
  | _ => ("CleaningBench$Part", "table", "I", false)
def tyX4 : Nat → FieldType := fun k => match k with
  | 0 => .array .boolean
  | 1 => .array .long
  | _ => .int
abbrev wsX40 : List Cond := u_ws RX4 TX4 3
theorem nmX4 : ∀ a, a < 3 → ∀ b, b < 3 → a ≠ b → (TX4 a).2.1 ≠ (TX4 b).2.1 := by decide +kernel
theorem tyX4_ok : ∀ k, k < 3 → parseFieldDescriptor (TX4 k).2.2.1 = some (tyX4 k) := by decide +kernel
abbrev cX4_init : ByteArray := prog_6_method_1_code
def yX4_init : MethodName := ⟨RX4, "<init>", "()V"⟩
def RX5 : String := "CleaningBench$Question"
def TX5 : u_T := fun k => match k with
  | 0 => ("CleaningBench$Question", "rows", "LCleaningBench$Rows;", true)
  | 1 => ("CleaningBench$Question", "parts", "[LCleaningBench$Part;", true)
  | 2 => ("CleaningBench$Question", "manyParts", "I", false)
  | 3 => ("CleaningBench$Question", "joins", "[LCleaningBench$Join;", true)
  | 4 => ("CleaningBench$Question", "manyJoins", "I", false)
  | 5 => ("CleaningBench$Question", "fitting", "[I", true)
  | 6 => ("CleaningBench$Question", "tried", "[I", true)
  | _ => ("CleaningBench$Question", "standing", "[Z", true)
def tyX5 : Nat → FieldType := fun k => match k with
  | 0 => .object "CleaningBench$Rows"
  | 1 => .array (.object "CleaningBench$Part")
  | 2 => .int
  | 3 => .array (.object "CleaningBench$Join")
  | 4 => .int
  | 5 => .array .int
  | 6 => .array .int
  | _ => .array .boolean
abbrev wsX50 : List Cond := u_ws RX5 TX5 8
theorem nmX5 : ∀ a, a < 8 → ∀ b, b < 8 → a ≠ b → (TX5 a).2.1 ≠ (TX5 b).2.1 := by decide +kernel
theorem tyX5_ok : ∀ k, k < 8 → parseFieldDescriptor (TX5 k).2.2.1 = some (tyX5 k) := by decide +kernel
abbrev cX5_init : ByteArray := prog_7_method_1_code
def yX5_init : MethodName := ⟨RX5, "<init>", "(LCleaningBench$Rows;)V"⟩
abbrev cX5_clear : ByteArray := prog_7_method_2_code
def yX5_clear : MethodName := ⟨RX5, "clear", "()V"⟩
abbrev cX5_addPart : ByteArray := prog_7_method_3_code
def yX5_addPart : MethodName := ⟨RX5, "addPart", "(I)I"⟩
abbrev cX5_addJoin : ByteArray := prog_7_method_4_code
def yX5_addJoin : MethodName := ⟨RX5, "addJoin", "(IIII)I"⟩
abbrev cX5_standsIn : ByteArray := prog_7_method_5_code
def yX5_standsIn : MethodName := ⟨RX5, "standsIn", "(I)Z"⟩
abbrev cX5_findStanding : ByteArray := prog_7_method_6_code
def yX5_findStanding : MethodName := ⟨RX5, "findStanding", "(I)V"⟩
abbrev cX5_findFitting : ByteArray := prog_7_method_7_code
def yX5_findFitting : MethodName := ⟨RX5, "findFitting", "(I)V"⟩
abbrev cX5_fittingOf : ByteArray := prog_7_method_8_code
def yX5_fittingOf : MethodName := ⟨RX5, "fittingOf", "(LCleaningBench$Part;I)I"⟩
abbrev cX5_hasTold : ByteArray := prog_7_method_9_code
def yX5_hasTold : MethodName := ⟨RX5, "hasTold", "(LCleaningBench$Part;LCleaningBench$Row;)Z"⟩
abbrev cX5_manyTries : ByteArray := prog_7_method_10_code
def yX5_manyTries : MethodName := ⟨RX5, "manyTries", "()I"⟩
abbrev cX5_stood : ByteArray := prog_7_method_11_code
def yX5_stood : MethodName := ⟨RX5, "stood", "(I)Z"⟩
abbrev cX5_isJoined : ByteArray := prog_7_method_12_code
def yX5_isJoined : MethodName := ⟨RX5, "isJoined", "(LCleaningBench$Join;)Z"⟩
abbrev cX5_triedRows : ByteArray := prog_7_method_13_code
def yX5_triedRows : MethodName := ⟨RX5, "triedRows", "()I"⟩
def RX6 : String := "CleaningBench$Row"
def TX6 : u_T := fun k => match k with
  | 0 => ("CleaningBench$Row", "numbers", "[J", true)
  | 1 => ("CleaningBench$Row", "there", "[Z", true)
  | 2 => ("CleaningBench$Row", "table", "I", false)
  | 3 => ("CleaningBench$Row", "trust", "I", false)
  | _ => ("CleaningBench$Row", "kept", "Z", false)
def tyX6 : Nat → FieldType := fun k => match k with
  | 0 => .array .long
  | 1 => .array .boolean
  | 2 => .int
  | 3 => .int
  | _ => .boolean
abbrev wsX60 : List Cond := u_ws RX6 TX6 5
theorem nmX6 : ∀ a, a < 5 → ∀ b, b < 5 → a ≠ b → (TX6 a).2.1 ≠ (TX6 b).2.1 := by decide +kernel
theorem tyX6_ok : ∀ k, k < 5 → parseFieldDescriptor (TX6 k).2.2.1 = some (tyX6 k) := by decide +kernel
abbrev cX6_init : ByteArray := prog_8_method_1_code
def yX6_init : MethodName := ⟨RX6, "<init>", "()V"⟩
def RX7 : String := "CleaningBench$Rows"
def TX7 : u_T := fun k => match k with
  | 0 => ("CleaningBench$Rows", "list", "[LCleaningBench$Row;", true)
  | _ => ("CleaningBench$Rows", "many", "I", false)
def tyX7 : Nat → FieldType := fun k => match k with
  | 0 => .array (.object "CleaningBench$Row")
  | _ => .int
abbrev wsX70 : List Cond := u_ws RX7 TX7 2
theorem nmX7 : ∀ a, a < 2 → ∀ b, b < 2 → a ≠ b → (TX7 a).2.1 ≠ (TX7 b).2.1 := by decide +kernel
theorem tyX7_ok : ∀ k, k < 2 → parseFieldDescriptor (TX7 k).2.2.1 = some (tyX7 k) := by decide +kernel
abbrev cX7_init : ByteArray := prog_9_method_1_code
def yX7_init : MethodName := ⟨RX7, "<init>", "()V"⟩
abbrev cX7_add : ByteArray := prog_9_method_2_code
def yX7_add : MethodName := ⟨RX7, "add", "(II)I"⟩
abbrev cX7_kept : ByteArray := prog_9_method_3_code
def yX7_kept : MethodName := ⟨RX7, "kept", "()I"⟩
abbrev cX7_drop : ByteArray := prog_9_method_4_code
def yX7_drop : MethodName := ⟨RX7, "drop", "(I)V"⟩
abbrev cX7_manyOf : ByteArray := prog_9_method_5_code
def yX7_manyOf : MethodName := ⟨RX7, "manyOf", "(I)I"⟩
abbrev cX7_trustOf : ByteArray := prog_9_method_6_code
def yX7_trustOf : MethodName := ⟨RX7, "trustOf", "(I)I"⟩
abbrev cX7_withCell : ByteArray := prog_9_method_7_code
def yX7_withCell : MethodName := ⟨RX7, "withCell", "(III)I"⟩
abbrev cX7_withNumber : ByteArray := prog_9_method_8_code
def yX7_withNumber : MethodName := ⟨RX7, "withNumber", "(IIJI)I"⟩
abbrev cX7_aboveZero : ByteArray := prog_9_method_9_code
def yX7_aboveZero : MethodName := ⟨RX7, "aboveZero", "(II)I"⟩
abbrev cX7_added : ByteArray := prog_9_method_10_code
def yX7_added : MethodName := ⟨RX7, "added", "(III)J"⟩
abbrev cX7_settleAll : ByteArray := prog_9_method_11_code
def yX7_settleAll : MethodName := ⟨RX7, "settleAll", "(III)I"⟩
abbrev cX7_settleGroup : ByteArray := prog_9_method_12_code
def yX7_settleGroup : MethodName := ⟨RX7, "settleGroup", "(III)I"⟩
abbrev cX7_mostTrusted : ByteArray := prog_9_method_13_code
def yX7_mostTrusted : MethodName := ⟨RX7, "mostTrusted", "(III)J"⟩
def RX8 : String := "CleaningBench$Table"
def TX8 : u_T := fun k => match k with
  | 0 => ("CleaningBench$Table", "lanes", "[I", true)
  | _ => ("CleaningBench$Table", "columns", "I", false)
def tyX8 : Nat → FieldType := fun k => match k with
  | 0 => .array .int
  | _ => .int
abbrev wsX80 : List Cond := u_ws RX8 TX8 2
theorem nmX8 : ∀ a, a < 2 → ∀ b, b < 2 → a ≠ b → (TX8 a).2.1 ≠ (TX8 b).2.1 := by decide +kernel
theorem tyX8_ok : ∀ k, k < 2 → parseFieldDescriptor (TX8 k).2.2.1 = some (tyX8 k) := by decide +kernel
abbrev cX8_init : ByteArray := prog_10_method_1_code
def yX8_init : MethodName := ⟨RX8, "<init>", "()V"⟩
abbrev cX8_make : ByteArray := prog_10_method_2_code
def yX8_make : MethodName := ⟨RX8, "make", "(II)V"⟩
def RX9 : String := "CleaningBench"
def TX9 : u_T := fun k => match k with
  | 0 => ("CleaningBench", "tables", "[LCleaningBench$Table;", true)
  | 1 => ("CleaningBench", "rows", "LCleaningBench$Rows;", true)
  | 2 => ("CleaningBench", "laws", "LCleaningBench$Laws;", true)
  | 3 => ("CleaningBench", "mendings", "LCleaningBench$Mendings;", true)
  | 4 => ("CleaningBench", "question", "LCleaningBench$Question;", true)
  | _ => ("CleaningBench", "findings", "I", false)
def tyX9 : Nat → FieldType := fun k => match k with
  | 0 => .array (.object "CleaningBench$Table")
  | 1 => .object "CleaningBench$Rows"
  | 2 => .object "CleaningBench$Laws"
  | 3 => .object "CleaningBench$Mendings"
  | 4 => .object "CleaningBench$Question"
  | _ => .int
abbrev wsX90 : List Cond := u_ws RX9 TX9 6
theorem nmX9 : ∀ a, a < 6 → ∀ b, b < 6 → a ≠ b → (TX9 a).2.1 ≠ (TX9 b).2.1 := by decide +kernel
theorem tyX9_ok : ∀ k, k < 6 → parseFieldDescriptor (TX9 k).2.2.1 = some (tyX9 k) := by decide +kernel
abbrev cX9_init : ByteArray := prog_1_method_1_code
def yX9_init : MethodName := ⟨RX9, "<init>", "()V"⟩
abbrev cX9_table : ByteArray := prog_1_method_2_code
def yX9_table : MethodName := ⟨RX9, "table", "(III)I"⟩
abbrev cX9_row : ByteArray := prog_1_method_3_code
def yX9_row : MethodName := ⟨RX9, "row", "(II)I"⟩
abbrev cX9_put : ByteArray := prog_1_method_4_code
def yX9_put : MethodName := ⟨RX9, "put", "(IIJ)I"⟩
abbrev cX9_miss : ByteArray := prog_1_method_5_code
def yX9_miss : MethodName := ⟨RX9, "miss", "(II)I"⟩
abbrev cX9_has : ByteArray := prog_1_method_6_code
def yX9_has : MethodName := ⟨RX9, "has", "(II)I"⟩
abbrev cX9_cell : ByteArray := prog_1_method_7_code
def yX9_cell : MethodName := ⟨RX9, "cell", "(II)J"⟩
abbrev cX9_column : ByteArray := prog_1_method_8_code
def yX9_column : MethodName := ⟨RX9, "column", "(III)I"⟩
abbrev cX9_trust : ByteArray := prog_1_method_9_code
def yX9_trust : MethodName := ⟨RX9, "trust", "(II)I"⟩
abbrev cX9_keep : ByteArray := prog_1_method_10_code
def yX9_keep : MethodName := ⟨RX9, "keep", "(IZ)I"⟩
abbrev cX9_about : ByteArray := prog_1_method_11_code
def yX9_about : MethodName := ⟨RX9, "about", "(II)I"⟩
abbrev cX9_law : ByteArray := prog_1_method_12_code
def yX9_law : MethodName := ⟨RX9, "law", "(IIIIJJ)I"⟩
abbrev cX9_among : ByteArray := prog_1_method_13_code
def yX9_among : MethodName := ⟨RX9, "among", "(IIII)I"⟩
abbrev cX9_force : ByteArray := prog_1_method_14_code
def yX9_force : MethodName := ⟨RX9, "force", "(IZ)I"⟩
abbrev cX9_most : ByteArray := prog_1_method_15_code
def yX9_most : MethodName := ⟨RX9, "most", "(I)J"⟩
abbrev cX9_quarrels : ByteArray := prog_1_method_16_code
def yX9_quarrels : MethodName := ⟨RX9, "quarrels", "(I)I"⟩
abbrev cX9_quarrel : ByteArray := prog_1_method_17_code
def yX9_quarrel : MethodName := ⟨RX9, "quarrel", "(II)I"⟩
abbrev cX9_clean : ByteArray := prog_1_method_18_code
def yX9_clean : MethodName := ⟨RX9, "clean", "()I"⟩
abbrev cX9_breaks : ByteArray := prog_1_method_19_code
def yX9_breaks : MethodName := ⟨RX9, "breaks", "(I)I"⟩
abbrev cX9_mends : ByteArray := prog_1_method_20_code
def yX9_mends : MethodName := ⟨RX9, "mends", "()I"⟩
abbrev cX9_mending : ByteArray := prog_1_method_21_code
def yX9_mending : MethodName := ⟨RX9, "mending", "(I)I"⟩
abbrev cX9_price : ByteArray := prog_1_method_22_code
def yX9_price : MethodName := ⟨RX9, "price", "()I"⟩
abbrev cX9_best : ByteArray := prog_1_method_23_code
def yX9_best : MethodName := ⟨RX9, "best", "()I"⟩
abbrev cX9_blame : ByteArray := prog_1_method_24_code
def yX9_blame : MethodName := ⟨RX9, "blame", "(I)I"⟩
abbrev cX9_sum : ByteArray := prog_1_method_25_code
def yX9_sum : MethodName := ⟨RX9, "sum", "(IIZ)J"⟩
abbrev cX9_mend : ByteArray := prog_1_method_26_code
def yX9_mend : MethodName := ⟨RX9, "mend", "()I"⟩
abbrev cX9_settle : ByteArray := prog_1_method_27_code
def yX9_settle : MethodName := ⟨RX9, "settle", "(I)I"⟩
abbrev cX9_ask : ByteArray := prog_1_method_28_code
def yX9_ask : MethodName := ⟨RX9, "ask", "()I"⟩
abbrev cX9_part : ByteArray := prog_1_method_29_code
def yX9_part : MethodName := ⟨RX9, "part", "(I)I"⟩
abbrev cX9_tell : ByteArray := prog_1_method_30_code
def yX9_tell : MethodName := ⟨RX9, "tell", "(IIJ)I"⟩
abbrev cX9_join : ByteArray := prog_1_method_31_code
def yX9_join : MethodName := ⟨RX9, "join", "(IIII)I"⟩
abbrev cX9_stands : ByteArray := prog_1_method_32_code
def yX9_stands : MethodName := ⟨RX9, "stands", "()I"⟩
abbrev cX9_often : ByteArray := prog_1_method_33_code
def yX9_often : MethodName := ⟨RX9, "often", "()I"⟩
abbrev cX9_sure : ByteArray := prog_1_method_34_code
def yX9_sure : MethodName := ⟨RX9, "sure", "()I"⟩
abbrev cX9_against : ByteArray := prog_1_method_35_code
def yX9_against : MethodName := ⟨RX9, "against", "()I"⟩
abbrev cX9_count : ByteArray := prog_1_method_36_code
def yX9_count : MethodName := ⟨RX9, "count", "(I)I"⟩
abbrev cX9_found : ByteArray := prog_1_method_37_code
def yX9_found : MethodName := ⟨RX9, "found", "(I)I"⟩
abbrev cX9_faultOfTable : ByteArray := prog_1_method_38_code
def yX9_faultOfTable : MethodName := ⟨RX9, "faultOfTable", "(I)I"⟩
abbrev cX9_faultOfColumn : ByteArray := prog_1_method_39_code
def yX9_faultOfColumn : MethodName := ⟨RX9, "faultOfColumn", "(II)I"⟩
abbrev cX9_faultOfColumnIn : ByteArray := prog_1_method_40_code
def yX9_faultOfColumnIn : MethodName := ⟨RX9, "faultOfColumnIn", "(II)I"⟩
abbrev cX9_faultOfCell : ByteArray := prog_1_method_41_code
def yX9_faultOfCell : MethodName := ⟨RX9, "faultOfCell", "(II)I"⟩
abbrev cX9_faultOfPart : ByteArray := prog_1_method_42_code
def yX9_faultOfPart : MethodName := ⟨RX9, "faultOfPart", "(II)I"⟩
abbrev cX9_isRow : ByteArray := prog_1_method_43_code
def yX9_isRow : MethodName := ⟨RX9, "isRow", "(I)Z"⟩
abbrev cX9_isLaw : ByteArray := prog_1_method_44_code
def yX9_isLaw : MethodName := ⟨RX9, "isLaw", "(I)Z"⟩
abbrev cX9_isPart : ByteArray := prog_1_method_45_code
def yX9_isPart : MethodName := ⟨RX9, "isPart", "(I)Z"⟩
abbrev cX9_isTrust : ByteArray := prog_1_method_46_code
def yX9_isTrust : MethodName := ⟨RX9, "isTrust", "(I)Z"⟩
abbrev cX9_areLanes : ByteArray := prog_1_method_47_code
def yX9_areLanes : MethodName := ⟨RX9, "areLanes", "(II)Z"⟩
abbrev cX9_looksAtTwo : ByteArray := prog_1_method_48_code
def yX9_looksAtTwo : MethodName := ⟨RX9, "looksAtTwo", "(I)Z"⟩
abbrev cX9_manyTables : ByteArray := prog_1_method_49_code
def yX9_manyTables : MethodName := ⟨RX9, "manyTables", "()I"⟩
abbrev cX9_timesStanding : ByteArray := prog_1_method_50_code
def yX9_timesStanding : MethodName := ⟨RX9, "timesStanding", "()I"⟩
abbrev cX9_oneIf : ByteArray := prog_1_method_51_code
def yX9_oneIf : MethodName := ⟨RX9, "oneIf", "(Z)I"⟩
abbrev cX9_isIn : ByteArray := prog_1_method_52_code
def yX9_isIn : MethodName := ⟨RX9, "isIn", "(II)Z"⟩
abbrev cX9_asLane : ByteArray := prog_1_method_53_code
def yX9_asLane : MethodName := ⟨RX9, "asLane", "(IJ)J"⟩
abbrev cX9_markWholes : ByteArray := prog_1_method_54_code
def yX9_markWholes : MethodName := ⟨RX9, "markWholes", "([ZI)V"⟩
abbrev cX9_unmark : ByteArray := prog_1_method_55_code
def yX9_unmark : MethodName := ⟨RX9, "unmark", "([ZI)V"⟩
def RX10 : String := "CleaningBenchModel"
def TX10 : u_T := fun k => match k with
  | 0 => ("CleaningBenchModel", "thrown", "I", false)
  | 1 => ("CleaningBenchModel", "columns", "[I", true)
  | 2 => ("CleaningBenchModel", "laneOf", "[I", true)
  | 3 => ("CleaningBenchModel", "rows", "I", false)
  | 4 => ("CleaningBenchModel", "tableOf", "[I", true)
  | 5 => ("CleaningBenchModel", "trustOf", "[I", true)
  | 6 => ("CleaningBenchModel", "isKept", "[Z", true)
  | 7 => ("CleaningBenchModel", "isThere", "[Z", true)
  | 8 => ("CleaningBenchModel", "told", "[J", true)
  | 9 => ("CleaningBenchModel", "laws", "I", false)
  | 10 => ("CleaningBenchModel", "kind", "[I", true)
  | 11 => ("CleaningBenchModel", "lawTable", "[I", true)
  | 12 => ("CleaningBenchModel", "colA", "[I", true)
  | 13 => ("CleaningBenchModel", "colB", "[I", true)
  | 14 => ("CleaningBenchModel", "lawOther", "[I", true)
  | 15 => ("CleaningBenchModel", "numC", "[J", true)
  | 16 => ("CleaningBenchModel", "numD", "[J", true)
  | 17 => ("CleaningBenchModel", "isInForce", "[Z", true)
  | 18 => ("CleaningBenchModel", "findings", "I", false)
  | 19 => ("CleaningBenchModel", "parts", "I", false)
  | 20 => ("CleaningBenchModel", "partTable", "[I", true)
  | 21 => ("CleaningBenchModel", "isTold", "[Z", true)
  | 22 => ("CleaningBenchModel", "tellOf", "[J", true)
  | 23 => ("CleaningBenchModel", "joins", "I", false)
  | 24 => ("CleaningBenchModel", "joinP", "[I", true)
  | 25 => ("CleaningBenchModel", "joinC", "[I", true)
  | 26 => ("CleaningBenchModel", "joinQ", "[I", true)
  | 27 => ("CleaningBenchModel", "joinD", "[I", true)
  | 28 => ("CleaningBenchModel", "isKnown", "Z", false)
  | 29 => ("CleaningBenchModel", "many", "I", false)
  | 30 => ("CleaningBenchModel", "leastOf", "[I", true)
  | 31 => ("CleaningBenchModel", "mendsBy", "[Z", true)
  | 32 => ("CleaningBenchModel", "quarrelsFound", "I", false)
  | 33 => ("CleaningBenchModel", "quarrelOf", "[I", true)
  | 34 => ("CleaningBenchModel", "become", "[J", true)
  | _ => ("CleaningBenchModel", "rowOf", "[I", true)
def tyX10 : Nat → FieldType := fun k => match k with
  | 0 => .int
  | 1 => .array .int
  | 2 => .array .int
  | 3 => .int
  | 4 => .array .int
  | 5 => .array .int
  | 6 => .array .boolean
  | 7 => .array .boolean
  | 8 => .array .long
  | 9 => .int
  | 10 => .array .int
  | 11 => .array .int
  | 12 => .array .int
  | 13 => .array .int
  | 14 => .array .int
  | 15 => .array .long
  | 16 => .array .long
  | 17 => .array .boolean
  | 18 => .int
  | 19 => .int
  | 20 => .array .int
  | 21 => .array .boolean
  | 22 => .array .long
  | 23 => .int
  | 24 => .array .int
  | 25 => .array .int
  | 26 => .array .int
  | 27 => .array .int
  | 28 => .boolean
  | 29 => .int
  | 30 => .array .int
  | 31 => .array .boolean
  | 32 => .int
  | 33 => .array .int
  | 34 => .array .long
  | _ => .array .int
abbrev wsX100 : List Cond := u_ws RX10 TX10 36
theorem nmX10 : ∀ a, a < 36 → ∀ b, b < 36 → a ≠ b → (TX10 a).2.1 ≠ (TX10 b).2.1 := by decide +kernel
theorem tyX10_ok : ∀ k, k < 36 → parseFieldDescriptor (TX10 k).2.2.1 = some (tyX10 k) := by decide +kernel
abbrev cX10_init : ByteArray := prog_12_method_1_code
def yX10_init : MethodName := ⟨RX10, "<init>", "()V"⟩
abbrev cX10_in : ByteArray := prog_12_method_3_code
def yX10_in : MethodName := ⟨RX10, "in", "(JJJ)Z"⟩
abbrev cX10_finds : ByteArray := prog_12_method_4_code
def yX10_finds : MethodName := ⟨RX10, "finds", "(I)I"⟩
abbrev cX10_lack : ByteArray := prog_12_method_5_code
def yX10_lack : MethodName := ⟨RX10, "lack", "(I)I"⟩
abbrev cX10_noRow : ByteArray := prog_12_method_6_code
def yX10_noRow : MethodName := ⟨RX10, "noRow", "(I)Z"⟩
abbrev cX10_noLaw : ByteArray := prog_12_method_7_code
def yX10_noLaw : MethodName := ⟨RX10, "noLaw", "(I)Z"⟩
abbrev cX10_noColumn : ByteArray := prog_12_method_8_code
def yX10_noColumn : MethodName := ⟨RX10, "noColumn", "(II)Z"⟩
abbrev cX10_table : ByteArray := prog_12_method_9_code
def yX10_table : MethodName := ⟨RX10, "table", "(III)I"⟩
abbrev cX10_row : ByteArray := prog_12_method_10_code
def yX10_row : MethodName := ⟨RX10, "row", "(II)I"⟩
abbrev cX10_lies : ByteArray := prog_12_method_11_code
def yX10_lies : MethodName := ⟨RX10, "lies", "(IJ)J"⟩
abbrev cX10_put : ByteArray := prog_12_method_12_code
def yX10_put : MethodName := ⟨RX10, "put", "(IIJ)I"⟩
abbrev cX10_miss : ByteArray := prog_12_method_13_code
def yX10_miss : MethodName := ⟨RX10, "miss", "(II)I"⟩
abbrev cX10_has : ByteArray := prog_12_method_14_code
def yX10_has : MethodName := ⟨RX10, "has", "(II)I"⟩
abbrev cX10_cell : ByteArray := prog_12_method_15_code
def yX10_cell : MethodName := ⟨RX10, "cell", "(II)J"⟩
abbrev cX10_column : ByteArray := prog_12_method_16_code
def yX10_column : MethodName := ⟨RX10, "column", "(III)I"⟩
abbrev cX10_trust : ByteArray := prog_12_method_17_code
def yX10_trust : MethodName := ⟨RX10, "trust", "(II)I"⟩
abbrev cX10_keep : ByteArray := prog_12_method_18_code
def yX10_keep : MethodName := ⟨RX10, "keep", "(IZ)I"⟩
abbrev cX10_about : ByteArray := prog_12_method_19_code
def yX10_about : MethodName := ⟨RX10, "about", "(II)I"⟩
abbrev cX10_add : ByteArray := prog_12_method_20_code
def yX10_add : MethodName := ⟨RX10, "add", "(IIIIIJJ)I"⟩
abbrev cX10_law : ByteArray := prog_12_method_21_code
def yX10_law : MethodName := ⟨RX10, "law", "(IIIIJJ)I"⟩
abbrev cX10_among : ByteArray := prog_12_method_22_code
def yX10_among : MethodName := ⟨RX10, "among", "(IIII)I"⟩
abbrev cX10_force : ByteArray := prog_12_method_23_code
def yX10_force : MethodName := ⟨RX10, "force", "(IZ)I"⟩
abbrev cX10_most : ByteArray := prog_12_method_24_code
def yX10_most : MethodName := ⟨RX10, "most", "(I)J"⟩
abbrev cX10_keptSet : ByteArray := prog_12_method_25_code
def yX10_keptSet : MethodName := ⟨RX10, "keptSet", "()I"⟩
abbrev cX10_isLike : ByteArray := prog_12_method_26_code
def yX10_isLike : MethodName := ⟨RX10, "isLike", "(IIII)Z"⟩
abbrev cX10_breakTwo : ByteArray := prog_12_method_27_code
def yX10_breakTwo : MethodName := ⟨RX10, "breakTwo", "(III)Z"⟩
abbrev cX10_breakOne : ByteArray := prog_12_method_28_code
def yX10_breakOne : MethodName := ⟨RX10, "breakOne", "(III)Z"⟩
abbrev cX10_isOf : ByteArray := prog_12_method_29_code
def yX10_isOf : MethodName := ⟨RX10, "isOf", "(III)Z"⟩
abbrev cX10_counts : ByteArray := prog_12_method_30_code
def yX10_counts : MethodName := ⟨RX10, "counts", "(II)Z"⟩
abbrev cX10_isMore : ByteArray := prog_12_method_31_code
def yX10_isMore : MethodName := ⟨RX10, "isMore", "(IIII)Z"⟩
abbrev cX10_breaksLaw : ByteArray := prog_12_method_32_code
def yX10_breaksLaw : MethodName := ⟨RX10, "breaksLaw", "(II)Z"⟩
abbrev cX10_bitsOf : ByteArray := prog_12_method_33_code
def yX10_bitsOf : MethodName := ⟨RX10, "bitsOf", "(I)I"⟩
abbrev cX10_isLeastSum : ByteArray := prog_12_method_34_code
def yX10_isLeastSum : MethodName := ⟨RX10, "isLeastSum", "(II)Z"⟩
abbrev cX10_findQuarrels : ByteArray := prog_12_method_35_code
def yX10_findQuarrels : MethodName := ⟨RX10, "findQuarrels", "(I)V"⟩
abbrev cX10_quarrels : ByteArray := prog_12_method_36_code
def yX10_quarrels : MethodName := ⟨RX10, "quarrels", "(I)I"⟩
abbrev cX10_quarrel : ByteArray := prog_12_method_37_code
def yX10_quarrel : MethodName := ⟨RX10, "quarrel", "(II)I"⟩
abbrev cX10_firstBroken : ByteArray := prog_12_method_38_code
def yX10_firstBroken : MethodName := ⟨RX10, "firstBroken", "(I)I"⟩
abbrev cX10_clean : ByteArray := prog_12_method_39_code
def yX10_clean : MethodName := ⟨RX10, "clean", "()I"⟩
abbrev cX10_breaks : ByteArray := prog_12_method_40_code
def yX10_breaks : MethodName := ⟨RX10, "breaks", "(I)I"⟩
abbrev cX10_know : ByteArray := prog_12_method_41_code
def yX10_know : MethodName := ⟨RX10, "know", "()V"⟩
abbrev cX10_priceOf : ByteArray := prog_12_method_42_code
def yX10_priceOf : MethodName := ⟨RX10, "priceOf", "(I)I"⟩
abbrev cX10_bestOf : ByteArray := prog_12_method_43_code
def yX10_bestOf : MethodName := ⟨RX10, "bestOf", "()I"⟩
abbrev cX10_mends : ByteArray := prog_12_method_44_code
def yX10_mends : MethodName := ⟨RX10, "mends", "()I"⟩
abbrev cX10_mending : ByteArray := prog_12_method_45_code
def yX10_mending : MethodName := ⟨RX10, "mending", "(I)I"⟩
abbrev cX10_price : ByteArray := prog_12_method_46_code
def yX10_price : MethodName := ⟨RX10, "price", "()I"⟩
abbrev cX10_best : ByteArray := prog_12_method_47_code
def yX10_best : MethodName := ⟨RX10, "best", "()I"⟩
abbrev cX10_blame : ByteArray := prog_12_method_48_code
def yX10_blame : MethodName := ⟨RX10, "blame", "(I)I"⟩
abbrev cX10_sum : ByteArray := prog_12_method_49_code
def yX10_sum : MethodName := ⟨RX10, "sum", "(IIZ)J"⟩
abbrev cX10_mend : ByteArray := prog_12_method_50_code
def yX10_mend : MethodName := ⟨RX10, "mend", "()I"⟩
abbrev cX10_settled : ByteArray := prog_12_method_51_code
def yX10_settled : MethodName := ⟨RX10, "settled", "(III)J"⟩
abbrev cX10_settle : ByteArray := prog_12_method_52_code
def yX10_settle : MethodName := ⟨RX10, "settle", "(I)I"⟩
abbrev cX10_noPart : ByteArray := prog_12_method_53_code
def yX10_noPart : MethodName := ⟨RX10, "noPart", "(I)Z"⟩
abbrev cX10_ask : ByteArray := prog_12_method_54_code
def yX10_ask : MethodName := ⟨RX10, "ask", "()I"⟩
abbrev cX10_part : ByteArray := prog_12_method_55_code
def yX10_part : MethodName := ⟨RX10, "part", "(I)I"⟩
abbrev cX10_tell : ByteArray := prog_12_method_56_code
def yX10_tell : MethodName := ⟨RX10, "tell", "(IIJ)I"⟩
abbrev cX10_join : ByteArray := prog_12_method_57_code
def yX10_join : MethodName := ⟨RX10, "join", "(IIII)I"⟩
abbrev cX10_fitsPart : ByteArray := prog_12_method_58_code
def yX10_fitsPart : MethodName := ⟨RX10, "fitsPart", "(III)Z"⟩
abbrev cX10_standsIn : ByteArray := prog_12_method_59_code
def yX10_standsIn : MethodName := ⟨RX10, "standsIn", "(I)Z"⟩
abbrev cX10_stands : ByteArray := prog_12_method_60_code
def yX10_stands : MethodName := ⟨RX10, "stands", "()I"⟩
abbrev cX10_oftenOf : ByteArray := prog_12_method_61_code
def yX10_oftenOf : MethodName := ⟨RX10, "oftenOf", "()I"⟩
abbrev cX10_often : ByteArray := prog_12_method_62_code
def yX10_often : MethodName := ⟨RX10, "often", "()I"⟩
abbrev cX10_sure : ByteArray := prog_12_method_63_code
def yX10_sure : MethodName := ⟨RX10, "sure", "()I"⟩
abbrev cX10_against : ByteArray := prog_12_method_64_code
def yX10_against : MethodName := ⟨RX10, "against", "()I"⟩
abbrev cX10_count : ByteArray := prog_12_method_65_code
def yX10_count : MethodName := ⟨RX10, "count", "(I)I"⟩
def RJ6 : String := "java/lang/Integer"
def TJ6 : u_T := fun k => match k with
  | _ => ("", "", "", false)
def tyJ6 : Nat → FieldType := fun k => match k with
  | _ => .int
abbrev cJ6_bitCount_0f7a4 : ByteArray := prog_13_method_49_code
def yJ6_bitCount_0f7a4 : MethodName := ⟨RJ6, "bitCount", "(I)I"⟩
def RL : String := "CleaningBenchLaw"
abbrev cL_law : ByteArray := code
def yL_law : MethodName := ⟨RL, "law", "([I)Z"⟩
abbrev vwCl : List vw_C := [(RX0, TX0, 4), (RX1, TX1, 8), (RX2, TX2, 5), (RX3, TX3, 7), (RX4, TX4, 3), (RX5, TX5, 8), (RX6, TX6, 5), (RX7, TX7, 2), (RX8, TX8, 2), (RX9, TX9, 6), (RX10, TX10, 36)]
end
section
-- names, fields, the words of the tables by their places: by program (wip/whole/gen01.py) out of the claim's printed texts
theorem se_X9_found : Cond.selects RX9 yX9_found yX9_found ∈ lw_tbl := List.mem_of_getElem? (i := 0) (by decide +kernel)
theorem se_X9_faultOfTable : Cond.selects RX9 yX9_faultOfTable yX9_faultOfTable ∈ lw_tbl := List.mem_of_getElem? (i := 1) (by decide +kernel)
theorem se_X9_faultOfCell : Cond.selects RX9 yX9_faultOfCell yX9_faultOfCell ∈ lw_tbl := List.mem_of_getElem? (i := 2) (by decide +kernel)
theorem se_X9_isRow : Cond.selects RX9 yX9_isRow yX9_isRow ∈ lw_tbl := List.mem_of_getElem? (i := 3) (by decide +kernel)
theorem se_X9_faultOfColumn : Cond.selects RX9 yX9_faultOfColumn yX9_faultOfColumn ∈ lw_tbl := List.mem_of_getElem? (i := 4) (by decide +kernel)
theorem se_X9_faultOfColumnIn : Cond.selects RX9 yX9_faultOfColumnIn yX9_faultOfColumnIn ∈ lw_tbl := List.mem_of_getElem? (i := 5) (by decide +kernel)
theorem se_X9_isLaw : Cond.selects RX9 yX9_isLaw yX9_isLaw ∈ lw_tbl := List.mem_of_getElem? (i := 6) (by decide +kernel)
theorem se_X9_faultOfPart : Cond.selects RX9 yX9_faultOfPart yX9_faultOfPart ∈ lw_tbl := List.mem_of_getElem? (i := 7) (by decide +kernel)
theorem se_X9_isPart : Cond.selects RX9 yX9_isPart yX9_isPart ∈ lw_tbl := List.mem_of_getElem? (i := 8) (by decide +kernel)
theorem se_X9_timesStanding : Cond.selects RX9 yX9_timesStanding yX9_timesStanding ∈ lw_tbl := List.mem_of_getElem? (i := 9) (by decide +kernel)
theorem se_X9_manyTables : Cond.selects RX9 yX9_manyTables yX9_manyTables ∈ lw_tbl := List.mem_of_getElem? (i := 10) (by decide +kernel)
theorem se_X10_finds : Cond.selects RX10 yX10_finds yX10_finds ∈ lw_tbl := List.mem_of_getElem? (i := 11) (by decide +kernel)
theorem se_X10_lack : Cond.selects RX10 yX10_lack yX10_lack ∈ lw_tbl := List.mem_of_getElem? (i := 12) (by decide +kernel)
theorem se_X10_noRow : Cond.selects RX10 yX10_noRow yX10_noRow ∈ lw_tbl := List.mem_of_getElem? (i := 13) (by decide +kernel)
theorem se_X10_noColumn : Cond.selects RX10 yX10_noColumn yX10_noColumn ∈ lw_tbl := List.mem_of_getElem? (i := 14) (by decide +kernel)
theorem se_X10_add : Cond.selects RX10 yX10_add yX10_add ∈ lw_tbl := List.mem_of_getElem? (i := 15) (by decide +kernel)
theorem se_X10_noLaw : Cond.selects RX10 yX10_noLaw yX10_noLaw ∈ lw_tbl := List.mem_of_getElem? (i := 16) (by decide +kernel)
theorem se_X10_findQuarrels : Cond.selects RX10 yX10_findQuarrels yX10_findQuarrels ∈ lw_tbl := List.mem_of_getElem? (i := 17) (by decide +kernel)
theorem se_X10_keptSet : Cond.selects RX10 yX10_keptSet yX10_keptSet ∈ lw_tbl := List.mem_of_getElem? (i := 18) (by decide +kernel)
theorem se_X10_isLeastSum : Cond.selects RX10 yX10_isLeastSum yX10_isLeastSum ∈ lw_tbl := List.mem_of_getElem? (i := 19) (by decide +kernel)
theorem se_X10_isOf : Cond.selects RX10 yX10_isOf yX10_isOf ∈ lw_tbl := List.mem_of_getElem? (i := 20) (by decide +kernel)
theorem se_X10_counts : Cond.selects RX10 yX10_counts yX10_counts ∈ lw_tbl := List.mem_of_getElem? (i := 21) (by decide +kernel)
theorem se_X10_isLike : Cond.selects RX10 yX10_isLike yX10_isLike ∈ lw_tbl := List.mem_of_getElem? (i := 22) (by decide +kernel)
theorem se_X10_isMore : Cond.selects RX10 yX10_isMore yX10_isMore ∈ lw_tbl := List.mem_of_getElem? (i := 23) (by decide +kernel)
theorem se_X10_breaksLaw : Cond.selects RX10 yX10_breaksLaw yX10_breaksLaw ∈ lw_tbl := List.mem_of_getElem? (i := 24) (by decide +kernel)
theorem se_X10_breakOne : Cond.selects RX10 yX10_breakOne yX10_breakOne ∈ lw_tbl := List.mem_of_getElem? (i := 25) (by decide +kernel)
theorem se_X10_breakTwo : Cond.selects RX10 yX10_breakTwo yX10_breakTwo ∈ lw_tbl := List.mem_of_getElem? (i := 26) (by decide +kernel)
theorem se_X10_firstBroken : Cond.selects RX10 yX10_firstBroken yX10_firstBroken ∈ lw_tbl := List.mem_of_getElem? (i := 27) (by decide +kernel)
theorem se_X10_know : Cond.selects RX10 yX10_know yX10_know ∈ lw_tbl := List.mem_of_getElem? (i := 28) (by decide +kernel)
theorem se_X10_bestOf : Cond.selects RX10 yX10_bestOf yX10_bestOf ∈ lw_tbl := List.mem_of_getElem? (i := 29) (by decide +kernel)
theorem se_X10_priceOf : Cond.selects RX10 yX10_priceOf yX10_priceOf ∈ lw_tbl := List.mem_of_getElem? (i := 30) (by decide +kernel)
theorem se_X10_settled : Cond.selects RX10 yX10_settled yX10_settled ∈ lw_tbl := List.mem_of_getElem? (i := 31) (by decide +kernel)
theorem se_X10_noPart : Cond.selects RX10 yX10_noPart yX10_noPart ∈ lw_tbl := List.mem_of_getElem? (i := 32) (by decide +kernel)
theorem se_X10_standsIn : Cond.selects RX10 yX10_standsIn yX10_standsIn ∈ lw_tbl := List.mem_of_getElem? (i := 33) (by decide +kernel)
theorem se_X10_fitsPart : Cond.selects RX10 yX10_fitsPart yX10_fitsPart ∈ lw_tbl := List.mem_of_getElem? (i := 34) (by decide +kernel)
theorem se_X10_oftenOf : Cond.selects RX10 yX10_oftenOf yX10_oftenOf ∈ lw_tbl := List.mem_of_getElem? (i := 35) (by decide +kernel)
theorem ini_L : Cond.initialized RL ∈ lw_tbl := List.mem_of_getElem? (i := 36) (by decide +kernel)
theorem ini_X9 : Cond.initialized RX9 ∈ lw_tbl := List.mem_of_getElem? (i := 37) (by decide +kernel)
theorem ini_X7 : Cond.initialized RX7 ∈ lw_tbl := List.mem_of_getElem? (i := 38) (by decide +kernel)
theorem ini_X6 : Cond.initialized RX6 ∈ lw_tbl := List.mem_of_getElem? (i := 39) (by decide +kernel)
theorem ini_X2 : Cond.initialized RX2 ∈ lw_tbl := List.mem_of_getElem? (i := 40) (by decide +kernel)
theorem ini_X1 : Cond.initialized RX1 ∈ lw_tbl := List.mem_of_getElem? (i := 41) (by decide +kernel)
theorem ini_X3 : Cond.initialized RX3 ∈ lw_tbl := List.mem_of_getElem? (i := 42) (by decide +kernel)
theorem ini_X5 : Cond.initialized RX5 ∈ lw_tbl := List.mem_of_getElem? (i := 43) (by decide +kernel)
theorem ini_X4 : Cond.initialized RX4 ∈ lw_tbl := List.mem_of_getElem? (i := 44) (by decide +kernel)
theorem ini_X0 : Cond.initialized RX0 ∈ lw_tbl := List.mem_of_getElem? (i := 45) (by decide +kernel)
theorem ini_X8 : Cond.initialized RX8 ∈ lw_tbl := List.mem_of_getElem? (i := 46) (by decide +kernel)
theorem ini_X10 : Cond.initialized RX10 ∈ lw_tbl := List.mem_of_getElem? (i := 47) (by decide +kernel)
theorem ini_J6 : Cond.initialized RJ6 ∈ lw_tbl := List.mem_of_getElem? (i := 48) (by decide +kernel)
theorem cl_L_7 : Cond.classLink RL 7 RX9 ∈ lw_tbl := List.mem_of_getElem? (i := 49) (by decide +kernel)
theorem in_X9 : Cond.instantiable RX9 6 ∈ lw_tbl := List.mem_of_getElem? (i := 50) (by decide +kernel)
theorem ml_L_9 : Cond.methodLink RL 9 yX9_init ∈ lw_tbl := List.mem_of_getElem? (i := 51) (by decide +kernel)
theorem im_X9_init : Cond.instanceMethod yX9_init ∈ lw_tbl := List.mem_of_getElem? (i := 52) (by decide +kernel)
theorem cd_X9_init : Cond.code yX9_init cX9_init 2 none ∈ lw_tbl := List.mem_of_getElem? (i := 53) (by decide +kernel)
theorem ml_X9_3 : Cond.methodLink RX9 3 Lib.objectInit ∈ lw_tbl := List.mem_of_getElem? (i := 54) (by decide +kernel)
theorem im_Obj : Cond.instanceMethod Lib.objectInit ∈ lw_tbl := List.mem_of_getElem? (i := 55) (by decide +kernel)
theorem cd_Obj : Cond.code Lib.objectInit ⟨#[0xb1]⟩ 1 none ∈ lw_tbl := List.mem_of_getElem? (i := 56) (by decide +kernel)
theorem cl_X9_9 : Cond.classLink RX9 9 RX8 ∈ lw_tbl := List.mem_of_getElem? (i := 57) (by decide +kernel)
theorem ao_X8 : Cond.arrayOver (.object RX8) ∈ lw_tbl := List.mem_of_getElem? (i := 58) (by decide +kernel)
theorem cl_X9_15 : Cond.classLink RX9 15 RX7 ∈ lw_tbl := List.mem_of_getElem? (i := 59) (by decide +kernel)
theorem in_X7 : Cond.instantiable RX7 2 ∈ lw_tbl := List.mem_of_getElem? (i := 60) (by decide +kernel)
theorem ml_X9_17 : Cond.methodLink RX9 17 yX7_init ∈ lw_tbl := List.mem_of_getElem? (i := 61) (by decide +kernel)
theorem im_X7_init : Cond.instanceMethod yX7_init ∈ lw_tbl := List.mem_of_getElem? (i := 62) (by decide +kernel)
theorem cd_X7_init : Cond.code yX7_init cX7_init 2 none ∈ lw_tbl := List.mem_of_getElem? (i := 63) (by decide +kernel)
theorem ml_X7_3 : Cond.methodLink RX7 3 Lib.objectInit ∈ lw_tbl := List.mem_of_getElem? (i := 64) (by decide +kernel)
theorem cl_X7_9 : Cond.classLink RX7 9 RX6 ∈ lw_tbl := List.mem_of_getElem? (i := 65) (by decide +kernel)
theorem ao_X6 : Cond.arrayOver (.object RX6) ∈ lw_tbl := List.mem_of_getElem? (i := 66) (by decide +kernel)
theorem in_X6 : Cond.instantiable RX6 5 ∈ lw_tbl := List.mem_of_getElem? (i := 67) (by decide +kernel)
theorem mn_X7_17 : Cond.methodLinkNest RX7 17 yX6_init RX9 ∈ lw_tbl := List.mem_of_getElem? (i := 68) (by decide +kernel)
theorem im_X6_init : Cond.instanceMethod yX6_init ∈ lw_tbl := List.mem_of_getElem? (i := 69) (by decide +kernel)
theorem cd_X6_init : Cond.code yX6_init cX6_init 1 none ∈ lw_tbl := List.mem_of_getElem? (i := 70) (by decide +kernel)
theorem ml_X6_3 : Cond.methodLink RX6 3 Lib.objectInit ∈ lw_tbl := List.mem_of_getElem? (i := 71) (by decide +kernel)
theorem fl_X6_9 : Cond.fieldLink RX6 9 "CleaningBench$Row" "numbers" "[J" ∈ lw_tbl := List.mem_of_getElem? (i := 72) (by decide +kernel)
theorem fl_X9_85 : Cond.fieldLink RX9 85 "CleaningBench$Row" "numbers" "[J" ∈ lw_tbl := List.mem_of_getElem? (i := 73) (by decide +kernel)
theorem fl_X3_104 : Cond.fieldLink RX3 104 "CleaningBench$Row" "numbers" "[J" ∈ lw_tbl := List.mem_of_getElem? (i := 74) (by decide +kernel)
theorem fl_X2_87 : Cond.fieldLink RX2 87 "CleaningBench$Row" "numbers" "[J" ∈ lw_tbl := List.mem_of_getElem? (i := 75) (by decide +kernel)
theorem fl_X7_44 : Cond.fieldLink RX7 44 "CleaningBench$Row" "numbers" "[J" ∈ lw_tbl := List.mem_of_getElem? (i := 76) (by decide +kernel)
theorem fl_X5_114 : Cond.fieldLink RX5 114 "CleaningBench$Row" "numbers" "[J" ∈ lw_tbl := List.mem_of_getElem? (i := 77) (by decide +kernel)
theorem fl_X6_15 : Cond.fieldLink RX6 15 "CleaningBench$Row" "there" "[Z" ∈ lw_tbl := List.mem_of_getElem? (i := 78) (by decide +kernel)
theorem fl_X9_102 : Cond.fieldLink RX9 102 "CleaningBench$Row" "there" "[Z" ∈ lw_tbl := List.mem_of_getElem? (i := 79) (by decide +kernel)
theorem fl_X2_80 : Cond.fieldLink RX2 80 "CleaningBench$Row" "there" "[Z" ∈ lw_tbl := List.mem_of_getElem? (i := 80) (by decide +kernel)
theorem fl_X7_40 : Cond.fieldLink RX7 40 "CleaningBench$Row" "there" "[Z" ∈ lw_tbl := List.mem_of_getElem? (i := 81) (by decide +kernel)
theorem fl_X5_111 : Cond.fieldLink RX5 111 "CleaningBench$Row" "there" "[Z" ∈ lw_tbl := List.mem_of_getElem? (i := 82) (by decide +kernel)
theorem fl_X7_22 : Cond.fieldLink RX7 22 "CleaningBench$Row" "table" "I" ∈ lw_tbl := List.mem_of_getElem? (i := 83) (by decide +kernel)
theorem fl_X9_91 : Cond.fieldLink RX9 91 "CleaningBench$Row" "table" "I" ∈ lw_tbl := List.mem_of_getElem? (i := 84) (by decide +kernel)
theorem fl_X2_69 : Cond.fieldLink RX2 69 "CleaningBench$Row" "table" "I" ∈ lw_tbl := List.mem_of_getElem? (i := 85) (by decide +kernel)
theorem fl_X5_104 : Cond.fieldLink RX5 104 "CleaningBench$Row" "table" "I" ∈ lw_tbl := List.mem_of_getElem? (i := 86) (by decide +kernel)
theorem fl_X7_25 : Cond.fieldLink RX7 25 "CleaningBench$Row" "trust" "I" ∈ lw_tbl := List.mem_of_getElem? (i := 87) (by decide +kernel)
theorem fl_X9_119 : Cond.fieldLink RX9 119 "CleaningBench$Row" "trust" "I" ∈ lw_tbl := List.mem_of_getElem? (i := 88) (by decide +kernel)
theorem fl_X7_28 : Cond.fieldLink RX7 28 "CleaningBench$Row" "kept" "Z" ∈ lw_tbl := List.mem_of_getElem? (i := 89) (by decide +kernel)
theorem fl_X9_122 : Cond.fieldLink RX9 122 "CleaningBench$Row" "kept" "Z" ∈ lw_tbl := List.mem_of_getElem? (i := 90) (by decide +kernel)
theorem ac_long : Cond.arrayClass .long ∈ lw_tbl := List.mem_of_getElem? (i := 102) (by decide +kernel)
theorem ac_boolean : Cond.arrayClass .boolean ∈ lw_tbl := List.mem_of_getElem? (i := 103) (by decide +kernel)
theorem fl_X7_11 : Cond.fieldLink RX7 11 "CleaningBench$Rows" "list" "[LCleaningBench$Row;" ∈ lw_tbl := List.mem_of_getElem? (i := 104) (by decide +kernel)
theorem fl_X9_81 : Cond.fieldLink RX9 81 "CleaningBench$Rows" "list" "[LCleaningBench$Row;" ∈ lw_tbl := List.mem_of_getElem? (i := 105) (by decide +kernel)
theorem fl_X3_101 : Cond.fieldLink RX3 101 "CleaningBench$Rows" "list" "[LCleaningBench$Row;" ∈ lw_tbl := List.mem_of_getElem? (i := 106) (by decide +kernel)
theorem fl_X2_66 : Cond.fieldLink RX2 66 "CleaningBench$Rows" "list" "[LCleaningBench$Row;" ∈ lw_tbl := List.mem_of_getElem? (i := 107) (by decide +kernel)
theorem fl_X5_100 : Cond.fieldLink RX5 100 "CleaningBench$Rows" "list" "[LCleaningBench$Row;" ∈ lw_tbl := List.mem_of_getElem? (i := 108) (by decide +kernel)
theorem fl_X7_18 : Cond.fieldLink RX7 18 "CleaningBench$Rows" "many" "I" ∈ lw_tbl := List.mem_of_getElem? (i := 109) (by decide +kernel)
theorem fl_X3_49 : Cond.fieldLink RX3 49 "CleaningBench$Rows" "many" "I" ∈ lw_tbl := List.mem_of_getElem? (i := 110) (by decide +kernel)
theorem fl_X9_71 : Cond.fieldLink RX9 71 "CleaningBench$Rows" "many" "I" ∈ lw_tbl := List.mem_of_getElem? (i := 111) (by decide +kernel)
theorem fl_X2_59 : Cond.fieldLink RX2 59 "CleaningBench$Rows" "many" "I" ∈ lw_tbl := List.mem_of_getElem? (i := 112) (by decide +kernel)
theorem fl_X5_77 : Cond.fieldLink RX5 77 "CleaningBench$Rows" "many" "I" ∈ lw_tbl := List.mem_of_getElem? (i := 113) (by decide +kernel)
theorem cl_X9_22 : Cond.classLink RX9 22 RX2 ∈ lw_tbl := List.mem_of_getElem? (i := 119) (by decide +kernel)
theorem in_X2 : Cond.instantiable RX2 5 ∈ lw_tbl := List.mem_of_getElem? (i := 120) (by decide +kernel)
theorem ml_X9_24 : Cond.methodLink RX9 24 yX2_init ∈ lw_tbl := List.mem_of_getElem? (i := 121) (by decide +kernel)
theorem im_X2_init : Cond.instanceMethod yX2_init ∈ lw_tbl := List.mem_of_getElem? (i := 122) (by decide +kernel)
theorem cd_X2_init : Cond.code yX2_init cX2_init 3 none ∈ lw_tbl := List.mem_of_getElem? (i := 123) (by decide +kernel)
theorem ml_X2_3 : Cond.methodLink RX2 3 Lib.objectInit ∈ lw_tbl := List.mem_of_getElem? (i := 124) (by decide +kernel)
theorem cl_X2_9 : Cond.classLink RX2 9 RX1 ∈ lw_tbl := List.mem_of_getElem? (i := 125) (by decide +kernel)
theorem ao_X1 : Cond.arrayOver (.object RX1) ∈ lw_tbl := List.mem_of_getElem? (i := 126) (by decide +kernel)
theorem in_X1 : Cond.instantiable RX1 8 ∈ lw_tbl := List.mem_of_getElem? (i := 127) (by decide +kernel)
theorem mn_X2_25 : Cond.methodLinkNest RX2 25 yX1_init RX9 ∈ lw_tbl := List.mem_of_getElem? (i := 128) (by decide +kernel)
theorem im_X1_init : Cond.instanceMethod yX1_init ∈ lw_tbl := List.mem_of_getElem? (i := 129) (by decide +kernel)
theorem cd_X1_init : Cond.code yX1_init cX1_init 1 none ∈ lw_tbl := List.mem_of_getElem? (i := 130) (by decide +kernel)
theorem ml_X1_1 : Cond.methodLink RX1 1 Lib.objectInit ∈ lw_tbl := List.mem_of_getElem? (i := 131) (by decide +kernel)
theorem fl_X2_30 : Cond.fieldLink RX2 30 "CleaningBench$Law" "kind" "I" ∈ lw_tbl := List.mem_of_getElem? (i := 132) (by decide +kernel)
theorem fl_X3_71 : Cond.fieldLink RX3 71 "CleaningBench$Law" "kind" "I" ∈ lw_tbl := List.mem_of_getElem? (i := 133) (by decide +kernel)
theorem fl_X9_165 : Cond.fieldLink RX9 165 "CleaningBench$Law" "kind" "I" ∈ lw_tbl := List.mem_of_getElem? (i := 134) (by decide +kernel)
theorem fl_X2_33 : Cond.fieldLink RX2 33 "CleaningBench$Law" "table" "I" ∈ lw_tbl := List.mem_of_getElem? (i := 135) (by decide +kernel)
theorem fl_X3_91 : Cond.fieldLink RX3 91 "CleaningBench$Law" "table" "I" ∈ lw_tbl := List.mem_of_getElem? (i := 136) (by decide +kernel)
theorem fl_X9_214 : Cond.fieldLink RX9 214 "CleaningBench$Law" "table" "I" ∈ lw_tbl := List.mem_of_getElem? (i := 137) (by decide +kernel)
theorem fl_X3_94 : Cond.fieldLink RX3 94 "CleaningBench$Law" "first" "I" ∈ lw_tbl := List.mem_of_getElem? (i := 138) (by decide +kernel)
theorem fl_X2_84 : Cond.fieldLink RX2 84 "CleaningBench$Law" "first" "I" ∈ lw_tbl := List.mem_of_getElem? (i := 139) (by decide +kernel)
theorem fl_X9_136 : Cond.fieldLink RX9 136 "CleaningBench$Law" "first" "I" ∈ lw_tbl := List.mem_of_getElem? (i := 140) (by decide +kernel)
theorem fl_X3_113 : Cond.fieldLink RX3 113 "CleaningBench$Law" "second" "I" ∈ lw_tbl := List.mem_of_getElem? (i := 141) (by decide +kernel)
theorem fl_X2_105 : Cond.fieldLink RX2 105 "CleaningBench$Law" "second" "I" ∈ lw_tbl := List.mem_of_getElem? (i := 142) (by decide +kernel)
theorem fl_X9_141 : Cond.fieldLink RX9 141 "CleaningBench$Law" "second" "I" ∈ lw_tbl := List.mem_of_getElem? (i := 143) (by decide +kernel)
theorem fl_X3_110 : Cond.fieldLink RX3 110 "CleaningBench$Law" "other" "I" ∈ lw_tbl := List.mem_of_getElem? (i := 144) (by decide +kernel)
theorem fl_X2_102 : Cond.fieldLink RX2 102 "CleaningBench$Law" "other" "I" ∈ lw_tbl := List.mem_of_getElem? (i := 145) (by decide +kernel)
theorem fl_X9_151 : Cond.fieldLink RX9 151 "CleaningBench$Law" "other" "I" ∈ lw_tbl := List.mem_of_getElem? (i := 146) (by decide +kernel)
theorem fl_X2_91 : Cond.fieldLink RX2 91 "CleaningBench$Law" "c" "J" ∈ lw_tbl := List.mem_of_getElem? (i := 147) (by decide +kernel)
theorem fl_X9_144 : Cond.fieldLink RX9 144 "CleaningBench$Law" "c" "J" ∈ lw_tbl := List.mem_of_getElem? (i := 148) (by decide +kernel)
theorem fl_X2_95 : Cond.fieldLink RX2 95 "CleaningBench$Law" "d" "J" ∈ lw_tbl := List.mem_of_getElem? (i := 149) (by decide +kernel)
theorem fl_X9_148 : Cond.fieldLink RX9 148 "CleaningBench$Law" "d" "J" ∈ lw_tbl := List.mem_of_getElem? (i := 150) (by decide +kernel)
theorem fl_X2_36 : Cond.fieldLink RX2 36 "CleaningBench$Law" "inForce" "Z" ∈ lw_tbl := List.mem_of_getElem? (i := 151) (by decide +kernel)
theorem fl_X3_65 : Cond.fieldLink RX3 65 "CleaningBench$Law" "inForce" "Z" ∈ lw_tbl := List.mem_of_getElem? (i := 152) (by decide +kernel)
theorem fl_X9_160 : Cond.fieldLink RX9 160 "CleaningBench$Law" "inForce" "Z" ∈ lw_tbl := List.mem_of_getElem? (i := 153) (by decide +kernel)
theorem ac_int : Cond.arrayClass .int ∈ lw_tbl := List.mem_of_getElem? (i := 171) (by decide +kernel)
theorem fl_X2_21 : Cond.fieldLink RX2 21 "CleaningBench$Laws" "rows" "LCleaningBench$Rows;" ∈ lw_tbl := List.mem_of_getElem? (i := 172) (by decide +kernel)
theorem fl_X2_11 : Cond.fieldLink RX2 11 "CleaningBench$Laws" "list" "[LCleaningBench$Law;" ∈ lw_tbl := List.mem_of_getElem? (i := 173) (by decide +kernel)
theorem fl_X3_61 : Cond.fieldLink RX3 61 "CleaningBench$Laws" "list" "[LCleaningBench$Law;" ∈ lw_tbl := List.mem_of_getElem? (i := 174) (by decide +kernel)
theorem fl_X9_157 : Cond.fieldLink RX9 157 "CleaningBench$Laws" "list" "[LCleaningBench$Law;" ∈ lw_tbl := List.mem_of_getElem? (i := 175) (by decide +kernel)
theorem fl_X2_26 : Cond.fieldLink RX2 26 "CleaningBench$Laws" "many" "I" ∈ lw_tbl := List.mem_of_getElem? (i := 176) (by decide +kernel)
theorem fl_X3_58 : Cond.fieldLink RX3 58 "CleaningBench$Laws" "many" "I" ∈ lw_tbl := List.mem_of_getElem? (i := 177) (by decide +kernel)
theorem fl_X9_126 : Cond.fieldLink RX9 126 "CleaningBench$Laws" "many" "I" ∈ lw_tbl := List.mem_of_getElem? (i := 178) (by decide +kernel)
theorem fl_X2_17 : Cond.fieldLink RX2 17 "CleaningBench$Laws" "found" "[I" ∈ lw_tbl := List.mem_of_getElem? (i := 179) (by decide +kernel)
theorem fl_X3_81 : Cond.fieldLink RX3 81 "CleaningBench$Laws" "found" "[I" ∈ lw_tbl := List.mem_of_getElem? (i := 180) (by decide +kernel)
theorem fl_X9_178 : Cond.fieldLink RX9 178 "CleaningBench$Laws" "found" "[I" ∈ lw_tbl := List.mem_of_getElem? (i := 181) (by decide +kernel)
theorem fl_X2_44 : Cond.fieldLink RX2 44 "CleaningBench$Laws" "manyFound" "I" ∈ lw_tbl := List.mem_of_getElem? (i := 182) (by decide +kernel)
theorem fl_X3_78 : Cond.fieldLink RX3 78 "CleaningBench$Laws" "manyFound" "I" ∈ lw_tbl := List.mem_of_getElem? (i := 183) (by decide +kernel)
theorem fl_X9_175 : Cond.fieldLink RX9 175 "CleaningBench$Laws" "manyFound" "I" ∈ lw_tbl := List.mem_of_getElem? (i := 184) (by decide +kernel)
theorem cl_X9_31 : Cond.classLink RX9 31 RX3 ∈ lw_tbl := List.mem_of_getElem? (i := 196) (by decide +kernel)
theorem in_X3 : Cond.instantiable RX3 7 ∈ lw_tbl := List.mem_of_getElem? (i := 197) (by decide +kernel)
theorem ml_X9_33 : Cond.methodLink RX9 33 yX3_init ∈ lw_tbl := List.mem_of_getElem? (i := 198) (by decide +kernel)
theorem im_X3_init : Cond.instanceMethod yX3_init ∈ lw_tbl := List.mem_of_getElem? (i := 199) (by decide +kernel)
theorem cd_X3_init : Cond.code yX3_init cX3_init 3 none ∈ lw_tbl := List.mem_of_getElem? (i := 200) (by decide +kernel)
theorem ml_X3_3 : Cond.methodLink RX3 3 Lib.objectInit ∈ lw_tbl := List.mem_of_getElem? (i := 201) (by decide +kernel)
theorem fl_X3_22 : Cond.fieldLink RX3 22 "CleaningBench$Mendings" "rows" "LCleaningBench$Rows;" ∈ lw_tbl := List.mem_of_getElem? (i := 202) (by decide +kernel)
theorem fl_X3_26 : Cond.fieldLink RX3 26 "CleaningBench$Mendings" "laws" "LCleaningBench$Laws;" ∈ lw_tbl := List.mem_of_getElem? (i := 203) (by decide +kernel)
theorem fl_X3_9 : Cond.fieldLink RX3 9 "CleaningBench$Mendings" "least" "[I" ∈ lw_tbl := List.mem_of_getElem? (i := 204) (by decide +kernel)
theorem fl_X9_186 : Cond.fieldLink RX9 186 "CleaningBench$Mendings" "least" "[I" ∈ lw_tbl := List.mem_of_getElem? (i := 205) (by decide +kernel)
theorem fl_X3_42 : Cond.fieldLink RX3 42 "CleaningBench$Mendings" "many" "I" ∈ lw_tbl := List.mem_of_getElem? (i := 206) (by decide +kernel)
theorem fl_X9_185 : Cond.fieldLink RX9 185 "CleaningBench$Mendings" "many" "I" ∈ lw_tbl := List.mem_of_getElem? (i := 207) (by decide +kernel)
theorem fl_X3_36 : Cond.fieldLink RX3 36 "CleaningBench$Mendings" "kept" "I" ∈ lw_tbl := List.mem_of_getElem? (i := 208) (by decide +kernel)
theorem fl_X9_257 : Cond.fieldLink RX9 257 "CleaningBench$Mendings" "kept" "I" ∈ lw_tbl := List.mem_of_getElem? (i := 209) (by decide +kernel)
theorem fl_X3_15 : Cond.fieldLink RX3 15 "CleaningBench$Mendings" "broken" "[Z" ∈ lw_tbl := List.mem_of_getElem? (i := 210) (by decide +kernel)
theorem fl_X3_19 : Cond.fieldLink RX3 19 "CleaningBench$Mendings" "covers" "[Z" ∈ lw_tbl := List.mem_of_getElem? (i := 211) (by decide +kernel)
theorem cl_X9_40 : Cond.classLink RX9 40 RX5 ∈ lw_tbl := List.mem_of_getElem? (i := 227) (by decide +kernel)
theorem in_X5 : Cond.instantiable RX5 8 ∈ lw_tbl := List.mem_of_getElem? (i := 228) (by decide +kernel)
theorem ml_X9_42 : Cond.methodLink RX9 42 yX5_init ∈ lw_tbl := List.mem_of_getElem? (i := 229) (by decide +kernel)
theorem im_X5_init : Cond.instanceMethod yX5_init ∈ lw_tbl := List.mem_of_getElem? (i := 230) (by decide +kernel)
theorem cd_X5_init : Cond.code yX5_init cX5_init 3 none ∈ lw_tbl := List.mem_of_getElem? (i := 231) (by decide +kernel)
theorem ml_X5_3 : Cond.methodLink RX5 3 Lib.objectInit ∈ lw_tbl := List.mem_of_getElem? (i := 232) (by decide +kernel)
theorem cl_X5_9 : Cond.classLink RX5 9 RX4 ∈ lw_tbl := List.mem_of_getElem? (i := 233) (by decide +kernel)
theorem ao_X4 : Cond.arrayOver (.object RX4) ∈ lw_tbl := List.mem_of_getElem? (i := 234) (by decide +kernel)
theorem cl_X5_17 : Cond.classLink RX5 17 RX0 ∈ lw_tbl := List.mem_of_getElem? (i := 235) (by decide +kernel)
theorem ao_X0 : Cond.arrayOver (.object RX0) ∈ lw_tbl := List.mem_of_getElem? (i := 236) (by decide +kernel)
theorem in_X4 : Cond.instantiable RX4 3 ∈ lw_tbl := List.mem_of_getElem? (i := 237) (by decide +kernel)
theorem mn_X5_38 : Cond.methodLinkNest RX5 38 yX4_init RX9 ∈ lw_tbl := List.mem_of_getElem? (i := 238) (by decide +kernel)
theorem im_X4_init : Cond.instanceMethod yX4_init ∈ lw_tbl := List.mem_of_getElem? (i := 239) (by decide +kernel)
theorem cd_X4_init : Cond.code yX4_init cX4_init 1 none ∈ lw_tbl := List.mem_of_getElem? (i := 240) (by decide +kernel)
theorem ml_X4_3 : Cond.methodLink RX4 3 Lib.objectInit ∈ lw_tbl := List.mem_of_getElem? (i := 241) (by decide +kernel)
theorem fl_X4_9 : Cond.fieldLink RX4 9 "CleaningBench$Part" "told" "[Z" ∈ lw_tbl := List.mem_of_getElem? (i := 242) (by decide +kernel)
theorem fl_X5_50 : Cond.fieldLink RX5 50 "CleaningBench$Part" "told" "[Z" ∈ lw_tbl := List.mem_of_getElem? (i := 243) (by decide +kernel)
theorem fl_X9_235 : Cond.fieldLink RX9 235 "CleaningBench$Part" "told" "[Z" ∈ lw_tbl := List.mem_of_getElem? (i := 244) (by decide +kernel)
theorem fl_X4_15 : Cond.fieldLink RX4 15 "CleaningBench$Part" "numbers" "[J" ∈ lw_tbl := List.mem_of_getElem? (i := 245) (by decide +kernel)
theorem fl_X5_118 : Cond.fieldLink RX5 118 "CleaningBench$Part" "numbers" "[J" ∈ lw_tbl := List.mem_of_getElem? (i := 246) (by decide +kernel)
theorem fl_X9_240 : Cond.fieldLink RX9 240 "CleaningBench$Part" "numbers" "[J" ∈ lw_tbl := List.mem_of_getElem? (i := 247) (by decide +kernel)
theorem fl_X5_47 : Cond.fieldLink RX5 47 "CleaningBench$Part" "table" "I" ∈ lw_tbl := List.mem_of_getElem? (i := 248) (by decide +kernel)
theorem fl_X9_271 : Cond.fieldLink RX9 271 "CleaningBench$Part" "table" "I" ∈ lw_tbl := List.mem_of_getElem? (i := 249) (by decide +kernel)
theorem in_X0 : Cond.instantiable RX0 4 ∈ lw_tbl := List.mem_of_getElem? (i := 257) (by decide +kernel)
theorem mn_X5_39 : Cond.methodLinkNest RX5 39 yX0_init RX9 ∈ lw_tbl := List.mem_of_getElem? (i := 258) (by decide +kernel)
theorem im_X0_init : Cond.instanceMethod yX0_init ∈ lw_tbl := List.mem_of_getElem? (i := 259) (by decide +kernel)
theorem cd_X0_init : Cond.code yX0_init cX0_init 1 none ∈ lw_tbl := List.mem_of_getElem? (i := 260) (by decide +kernel)
theorem ml_X0_1 : Cond.methodLink RX0 1 Lib.objectInit ∈ lw_tbl := List.mem_of_getElem? (i := 261) (by decide +kernel)
theorem fl_X5_53 : Cond.fieldLink RX5 53 "CleaningBench$Join" "p" "I" ∈ lw_tbl := List.mem_of_getElem? (i := 262) (by decide +kernel)
theorem fl_X5_56 : Cond.fieldLink RX5 56 "CleaningBench$Join" "c" "I" ∈ lw_tbl := List.mem_of_getElem? (i := 263) (by decide +kernel)
theorem fl_X5_59 : Cond.fieldLink RX5 59 "CleaningBench$Join" "q" "I" ∈ lw_tbl := List.mem_of_getElem? (i := 264) (by decide +kernel)
theorem fl_X5_62 : Cond.fieldLink RX5 62 "CleaningBench$Join" "d" "I" ∈ lw_tbl := List.mem_of_getElem? (i := 265) (by decide +kernel)
theorem fl_X5_34 : Cond.fieldLink RX5 34 "CleaningBench$Question" "rows" "LCleaningBench$Rows;" ∈ lw_tbl := List.mem_of_getElem? (i := 275) (by decide +kernel)
theorem fl_X5_11 : Cond.fieldLink RX5 11 "CleaningBench$Question" "parts" "[LCleaningBench$Part;" ∈ lw_tbl := List.mem_of_getElem? (i := 276) (by decide +kernel)
theorem fl_X9_231 : Cond.fieldLink RX9 231 "CleaningBench$Question" "parts" "[LCleaningBench$Part;" ∈ lw_tbl := List.mem_of_getElem? (i := 277) (by decide +kernel)
theorem fl_X5_40 : Cond.fieldLink RX5 40 "CleaningBench$Question" "manyParts" "I" ∈ lw_tbl := List.mem_of_getElem? (i := 278) (by decide +kernel)
theorem fl_X9_219 : Cond.fieldLink RX9 219 "CleaningBench$Question" "manyParts" "I" ∈ lw_tbl := List.mem_of_getElem? (i := 279) (by decide +kernel)
theorem fl_X5_19 : Cond.fieldLink RX5 19 "CleaningBench$Question" "joins" "[LCleaningBench$Join;" ∈ lw_tbl := List.mem_of_getElem? (i := 280) (by decide +kernel)
theorem fl_X5_44 : Cond.fieldLink RX5 44 "CleaningBench$Question" "manyJoins" "I" ∈ lw_tbl := List.mem_of_getElem? (i := 281) (by decide +kernel)
theorem fl_X9_244 : Cond.fieldLink RX9 244 "CleaningBench$Question" "manyJoins" "I" ∈ lw_tbl := List.mem_of_getElem? (i := 282) (by decide +kernel)
theorem fl_X5_23 : Cond.fieldLink RX5 23 "CleaningBench$Question" "fitting" "[I" ∈ lw_tbl := List.mem_of_getElem? (i := 283) (by decide +kernel)
theorem fl_X5_27 : Cond.fieldLink RX5 27 "CleaningBench$Question" "tried" "[I" ∈ lw_tbl := List.mem_of_getElem? (i := 284) (by decide +kernel)
theorem fl_X5_30 : Cond.fieldLink RX5 30 "CleaningBench$Question" "standing" "[Z" ∈ lw_tbl := List.mem_of_getElem? (i := 285) (by decide +kernel)
theorem fl_X9_262 : Cond.fieldLink RX9 262 "CleaningBench$Question" "standing" "[Z" ∈ lw_tbl := List.mem_of_getElem? (i := 286) (by decide +kernel)
theorem in_X8 : Cond.instantiable RX8 2 ∈ lw_tbl := List.mem_of_getElem? (i := 304) (by decide +kernel)
theorem mn_X9_47 : Cond.methodLinkNest RX9 47 yX8_init RX9 ∈ lw_tbl := List.mem_of_getElem? (i := 305) (by decide +kernel)
theorem im_X8_init : Cond.instanceMethod yX8_init ∈ lw_tbl := List.mem_of_getElem? (i := 306) (by decide +kernel)
theorem cd_X8_init : Cond.code yX8_init cX8_init 1 none ∈ lw_tbl := List.mem_of_getElem? (i := 307) (by decide +kernel)
theorem ml_X8_3 : Cond.methodLink RX8 3 Lib.objectInit ∈ lw_tbl := List.mem_of_getElem? (i := 308) (by decide +kernel)
theorem fl_X8_9 : Cond.fieldLink RX8 9 "CleaningBench$Table" "lanes" "[I" ∈ lw_tbl := List.mem_of_getElem? (i := 309) (by decide +kernel)
theorem fl_X9_94 : Cond.fieldLink RX9 94 "CleaningBench$Table" "lanes" "[I" ∈ lw_tbl := List.mem_of_getElem? (i := 310) (by decide +kernel)
theorem fl_X8_15 : Cond.fieldLink RX8 15 "CleaningBench$Table" "columns" "I" ∈ lw_tbl := List.mem_of_getElem? (i := 311) (by decide +kernel)
theorem fl_X9_56 : Cond.fieldLink RX9 56 "CleaningBench$Table" "columns" "I" ∈ lw_tbl := List.mem_of_getElem? (i := 312) (by decide +kernel)
theorem fl_X9_11 : Cond.fieldLink RX9 11 "CleaningBench" "tables" "[LCleaningBench$Table;" ∈ lw_tbl := List.mem_of_getElem? (i := 318) (by decide +kernel)
theorem fl_X9_18 : Cond.fieldLink RX9 18 "CleaningBench" "rows" "LCleaningBench$Rows;" ∈ lw_tbl := List.mem_of_getElem? (i := 319) (by decide +kernel)
theorem fl_X9_27 : Cond.fieldLink RX9 27 "CleaningBench" "laws" "LCleaningBench$Laws;" ∈ lw_tbl := List.mem_of_getElem? (i := 320) (by decide +kernel)
theorem fl_X9_36 : Cond.fieldLink RX9 36 "CleaningBench" "mendings" "LCleaningBench$Mendings;" ∈ lw_tbl := List.mem_of_getElem? (i := 321) (by decide +kernel)
theorem fl_X9_43 : Cond.fieldLink RX9 43 "CleaningBench" "question" "LCleaningBench$Question;" ∈ lw_tbl := List.mem_of_getElem? (i := 322) (by decide +kernel)
theorem fl_X9_265 : Cond.fieldLink RX9 265 "CleaningBench" "findings" "I" ∈ lw_tbl := List.mem_of_getElem? (i := 323) (by decide +kernel)
theorem ml_L_13 : Cond.methodLink RL 13 yX9_table ∈ lw_tbl := List.mem_of_getElem? (i := 337) (by decide +kernel)
theorem im_X9_table : Cond.instanceMethod yX9_table ∈ lw_tbl := List.mem_of_getElem? (i := 338) (by decide +kernel)
theorem se_X9_table : Cond.selects RX9 yX9_table yX9_table ∈ lw_tbl := List.mem_of_getElem? (i := 339) (by decide +kernel)
theorem cd_X9_table : Cond.code yX9_table cX9_table 4 (some .int) ∈ lw_tbl := List.mem_of_getElem? (i := 340) (by decide +kernel)
theorem ml_X9_48 : Cond.methodLink RX9 48 yX9_found ∈ lw_tbl := List.mem_of_getElem? (i := 341) (by decide +kernel)
theorem im_X9_found : Cond.instanceMethod yX9_found ∈ lw_tbl := List.mem_of_getElem? (i := 343) (by decide +kernel)
theorem cd_X9_found : Cond.code yX9_found cX9_found 2 (some .int) ∈ lw_tbl := List.mem_of_getElem? (i := 344) (by decide +kernel)
theorem ml_X9_52 : Cond.methodLink RX9 52 yX9_areLanes ∈ lw_tbl := List.mem_of_getElem? (i := 345) (by decide +kernel)
theorem st_X9_areLanes : Cond.static yX9_areLanes ∈ lw_tbl := List.mem_of_getElem? (i := 346) (by decide +kernel)
theorem cd_X9_areLanes : Cond.code yX9_areLanes cX9_areLanes 4 (some .boolean) ∈ lw_tbl := List.mem_of_getElem? (i := 347) (by decide +kernel)
theorem ml_X9_60 : Cond.methodLink RX9 60 yX8_make ∈ lw_tbl := List.mem_of_getElem? (i := 348) (by decide +kernel)
theorem im_X8_make : Cond.instanceMethod yX8_make ∈ lw_tbl := List.mem_of_getElem? (i := 349) (by decide +kernel)
theorem se_X8_make : Cond.selects RX8 yX8_make yX8_make ∈ lw_tbl := List.mem_of_getElem? (i := 350) (by decide +kernel)
theorem cd_X8_make : Cond.code yX8_make cX8_make 5 none ∈ lw_tbl := List.mem_of_getElem? (i := 351) (by decide +kernel)
theorem ml_L_18 : Cond.methodLink RL 18 yX9_row ∈ lw_tbl := List.mem_of_getElem? (i := 352) (by decide +kernel)
theorem im_X9_row : Cond.instanceMethod yX9_row ∈ lw_tbl := List.mem_of_getElem? (i := 353) (by decide +kernel)
theorem se_X9_row : Cond.selects RX9 yX9_row yX9_row ∈ lw_tbl := List.mem_of_getElem? (i := 354) (by decide +kernel)
theorem cd_X9_row : Cond.code yX9_row cX9_row 4 (some .int) ∈ lw_tbl := List.mem_of_getElem? (i := 355) (by decide +kernel)
theorem ml_X9_64 : Cond.methodLink RX9 64 yX9_faultOfTable ∈ lw_tbl := List.mem_of_getElem? (i := 356) (by decide +kernel)
theorem im_X9_faultOfTable : Cond.instanceMethod yX9_faultOfTable ∈ lw_tbl := List.mem_of_getElem? (i := 358) (by decide +kernel)
theorem cd_X9_faultOfTable : Cond.code yX9_faultOfTable cX9_faultOfTable 2 (some .int) ∈ lw_tbl := List.mem_of_getElem? (i := 359) (by decide +kernel)
theorem ml_X9_67 : Cond.methodLink RX9 67 yX9_isTrust ∈ lw_tbl := List.mem_of_getElem? (i := 360) (by decide +kernel)
theorem st_X9_isTrust : Cond.static yX9_isTrust ∈ lw_tbl := List.mem_of_getElem? (i := 361) (by decide +kernel)
theorem cd_X9_isTrust : Cond.code yX9_isTrust cX9_isTrust 1 (some .boolean) ∈ lw_tbl := List.mem_of_getElem? (i := 362) (by decide +kernel)
theorem ml_X9_74 : Cond.methodLink RX9 74 yX7_add ∈ lw_tbl := List.mem_of_getElem? (i := 363) (by decide +kernel)
theorem im_X7_add : Cond.instanceMethod yX7_add ∈ lw_tbl := List.mem_of_getElem? (i := 364) (by decide +kernel)
theorem se_X7_add : Cond.selects RX7 yX7_add yX7_add ∈ lw_tbl := List.mem_of_getElem? (i := 365) (by decide +kernel)
theorem cd_X7_add : Cond.code yX7_add cX7_add 3 (some .int) ∈ lw_tbl := List.mem_of_getElem? (i := 366) (by decide +kernel)
theorem ml_L_25 : Cond.methodLink RL 25 yX9_put ∈ lw_tbl := List.mem_of_getElem? (i := 367) (by decide +kernel)
theorem im_X9_put : Cond.instanceMethod yX9_put ∈ lw_tbl := List.mem_of_getElem? (i := 368) (by decide +kernel)
theorem se_X9_put : Cond.selects RX9 yX9_put yX9_put ∈ lw_tbl := List.mem_of_getElem? (i := 369) (by decide +kernel)
theorem cd_X9_put : Cond.code yX9_put cX9_put 7 (some .int) ∈ lw_tbl := List.mem_of_getElem? (i := 370) (by decide +kernel)
theorem ml_X9_78 : Cond.methodLink RX9 78 yX9_faultOfCell ∈ lw_tbl := List.mem_of_getElem? (i := 371) (by decide +kernel)
theorem im_X9_faultOfCell : Cond.instanceMethod yX9_faultOfCell ∈ lw_tbl := List.mem_of_getElem? (i := 373) (by decide +kernel)
theorem cd_X9_faultOfCell : Cond.code yX9_faultOfCell cX9_faultOfCell 3 (some .int) ∈ lw_tbl := List.mem_of_getElem? (i := 374) (by decide +kernel)
theorem ml_X9_116 : Cond.methodLink RX9 116 yX9_isRow ∈ lw_tbl := List.mem_of_getElem? (i := 375) (by decide +kernel)
theorem im_X9_isRow : Cond.instanceMethod yX9_isRow ∈ lw_tbl := List.mem_of_getElem? (i := 377) (by decide +kernel)
theorem cd_X9_isRow : Cond.code yX9_isRow cX9_isRow 2 (some .boolean) ∈ lw_tbl := List.mem_of_getElem? (i := 378) (by decide +kernel)
theorem ml_X9_110 : Cond.methodLink RX9 110 yX9_faultOfColumn ∈ lw_tbl := List.mem_of_getElem? (i := 379) (by decide +kernel)
theorem im_X9_faultOfColumn : Cond.instanceMethod yX9_faultOfColumn ∈ lw_tbl := List.mem_of_getElem? (i := 381) (by decide +kernel)
theorem cd_X9_faultOfColumn : Cond.code yX9_faultOfColumn cX9_faultOfColumn 3 (some .int) ∈ lw_tbl := List.mem_of_getElem? (i := 382) (by decide +kernel)
theorem ml_X9_98 : Cond.methodLink RX9 98 yX9_asLane ∈ lw_tbl := List.mem_of_getElem? (i := 383) (by decide +kernel)
theorem st_X9_asLane : Cond.static yX9_asLane ∈ lw_tbl := List.mem_of_getElem? (i := 384) (by decide +kernel)
theorem cd_X9_asLane : Cond.code yX9_asLane cX9_asLane 3 (some .long) ∈ lw_tbl := List.mem_of_getElem? (i := 385) (by decide +kernel)
theorem ml_L_30 : Cond.methodLink RL 30 yX9_miss ∈ lw_tbl := List.mem_of_getElem? (i := 386) (by decide +kernel)
theorem im_X9_miss : Cond.instanceMethod yX9_miss ∈ lw_tbl := List.mem_of_getElem? (i := 387) (by decide +kernel)
theorem se_X9_miss : Cond.selects RX9 yX9_miss yX9_miss ∈ lw_tbl := List.mem_of_getElem? (i := 388) (by decide +kernel)
theorem cd_X9_miss : Cond.code yX9_miss cX9_miss 6 (some .int) ∈ lw_tbl := List.mem_of_getElem? (i := 389) (by decide +kernel)
theorem ml_X9_106 : Cond.methodLink RX9 106 yX9_oneIf ∈ lw_tbl := List.mem_of_getElem? (i := 390) (by decide +kernel)
theorem st_X9_oneIf : Cond.static yX9_oneIf ∈ lw_tbl := List.mem_of_getElem? (i := 391) (by decide +kernel)
theorem cd_X9_oneIf : Cond.code yX9_oneIf cX9_oneIf 1 (some .int) ∈ lw_tbl := List.mem_of_getElem? (i := 392) (by decide +kernel)
theorem ml_L_34 : Cond.methodLink RL 34 yX9_has ∈ lw_tbl := List.mem_of_getElem? (i := 393) (by decide +kernel)
theorem im_X9_has : Cond.instanceMethod yX9_has ∈ lw_tbl := List.mem_of_getElem? (i := 394) (by decide +kernel)
theorem se_X9_has : Cond.selects RX9 yX9_has yX9_has ∈ lw_tbl := List.mem_of_getElem? (i := 395) (by decide +kernel)
theorem cd_X9_has : Cond.code yX9_has cX9_has 4 (some .int) ∈ lw_tbl := List.mem_of_getElem? (i := 396) (by decide +kernel)
theorem ml_L_38 : Cond.methodLink RL 38 yX9_cell ∈ lw_tbl := List.mem_of_getElem? (i := 397) (by decide +kernel)
theorem im_X9_cell : Cond.instanceMethod yX9_cell ∈ lw_tbl := List.mem_of_getElem? (i := 398) (by decide +kernel)
theorem se_X9_cell : Cond.selects RX9 yX9_cell yX9_cell ∈ lw_tbl := List.mem_of_getElem? (i := 399) (by decide +kernel)
theorem cd_X9_cell : Cond.code yX9_cell cX9_cell 4 (some .long) ∈ lw_tbl := List.mem_of_getElem? (i := 400) (by decide +kernel)
theorem ml_L_43 : Cond.methodLink RL 43 yX9_column ∈ lw_tbl := List.mem_of_getElem? (i := 401) (by decide +kernel)
theorem im_X9_column : Cond.instanceMethod yX9_column ∈ lw_tbl := List.mem_of_getElem? (i := 402) (by decide +kernel)
theorem se_X9_column : Cond.selects RX9 yX9_column yX9_column ∈ lw_tbl := List.mem_of_getElem? (i := 403) (by decide +kernel)
theorem cd_X9_column : Cond.code yX9_column cX9_column 5 (some .int) ∈ lw_tbl := List.mem_of_getElem? (i := 404) (by decide +kernel)
theorem ml_X9_113 : Cond.methodLink RX9 113 yX7_manyOf ∈ lw_tbl := List.mem_of_getElem? (i := 405) (by decide +kernel)
theorem im_X7_manyOf : Cond.instanceMethod yX7_manyOf ∈ lw_tbl := List.mem_of_getElem? (i := 406) (by decide +kernel)
theorem se_X7_manyOf : Cond.selects RX7 yX7_manyOf yX7_manyOf ∈ lw_tbl := List.mem_of_getElem? (i := 407) (by decide +kernel)
theorem cd_X7_manyOf : Cond.code yX7_manyOf cX7_manyOf 4 (some .int) ∈ lw_tbl := List.mem_of_getElem? (i := 408) (by decide +kernel)
theorem mn_X7_36 : Cond.methodLinkNest RX7 36 yX9_oneIf RX9 ∈ lw_tbl := List.mem_of_getElem? (i := 409) (by decide +kernel)
theorem ml_L_47 : Cond.methodLink RL 47 yX9_trust ∈ lw_tbl := List.mem_of_getElem? (i := 410) (by decide +kernel)
theorem im_X9_trust : Cond.instanceMethod yX9_trust ∈ lw_tbl := List.mem_of_getElem? (i := 411) (by decide +kernel)
theorem se_X9_trust : Cond.selects RX9 yX9_trust yX9_trust ∈ lw_tbl := List.mem_of_getElem? (i := 412) (by decide +kernel)
theorem cd_X9_trust : Cond.code yX9_trust cX9_trust 4 (some .int) ∈ lw_tbl := List.mem_of_getElem? (i := 413) (by decide +kernel)
theorem ml_L_51 : Cond.methodLink RL 51 yX9_keep ∈ lw_tbl := List.mem_of_getElem? (i := 414) (by decide +kernel)
theorem im_X9_keep : Cond.instanceMethod yX9_keep ∈ lw_tbl := List.mem_of_getElem? (i := 415) (by decide +kernel)
theorem se_X9_keep : Cond.selects RX9 yX9_keep yX9_keep ∈ lw_tbl := List.mem_of_getElem? (i := 416) (by decide +kernel)
theorem cd_X9_keep : Cond.code yX9_keep cX9_keep 4 (some .int) ∈ lw_tbl := List.mem_of_getElem? (i := 417) (by decide +kernel)
theorem ml_L_56 : Cond.methodLink RL 56 yX9_about ∈ lw_tbl := List.mem_of_getElem? (i := 418) (by decide +kernel)
theorem im_X9_about : Cond.instanceMethod yX9_about ∈ lw_tbl := List.mem_of_getElem? (i := 419) (by decide +kernel)
theorem se_X9_about : Cond.selects RX9 yX9_about yX9_about ∈ lw_tbl := List.mem_of_getElem? (i := 420) (by decide +kernel)
theorem cd_X9_about : Cond.code yX9_about cX9_about 4 (some .int) ∈ lw_tbl := List.mem_of_getElem? (i := 421) (by decide +kernel)
theorem ml_L_60 : Cond.methodLink RL 60 yX9_law ∈ lw_tbl := List.mem_of_getElem? (i := 422) (by decide +kernel)
theorem im_X9_law : Cond.instanceMethod yX9_law ∈ lw_tbl := List.mem_of_getElem? (i := 423) (by decide +kernel)
theorem se_X9_law : Cond.selects RX9 yX9_law yX9_law ∈ lw_tbl := List.mem_of_getElem? (i := 424) (by decide +kernel)
theorem cd_X9_law : Cond.code yX9_law cX9_law 11 (some .int) ∈ lw_tbl := List.mem_of_getElem? (i := 425) (by decide +kernel)
theorem ml_X9_127 : Cond.methodLink RX9 127 yX9_faultOfColumnIn ∈ lw_tbl := List.mem_of_getElem? (i := 426) (by decide +kernel)
theorem im_X9_faultOfColumnIn : Cond.instanceMethod yX9_faultOfColumnIn ∈ lw_tbl := List.mem_of_getElem? (i := 428) (by decide +kernel)
theorem cd_X9_faultOfColumnIn : Cond.code yX9_faultOfColumnIn cX9_faultOfColumnIn 4 (some .int) ∈ lw_tbl := List.mem_of_getElem? (i := 429) (by decide +kernel)
theorem ml_X9_130 : Cond.methodLink RX9 130 yX9_looksAtTwo ∈ lw_tbl := List.mem_of_getElem? (i := 430) (by decide +kernel)
theorem st_X9_looksAtTwo : Cond.static yX9_looksAtTwo ∈ lw_tbl := List.mem_of_getElem? (i := 431) (by decide +kernel)
theorem cd_X9_looksAtTwo : Cond.code yX9_looksAtTwo cX9_looksAtTwo 1 (some .boolean) ∈ lw_tbl := List.mem_of_getElem? (i := 432) (by decide +kernel)
theorem ml_X9_133 : Cond.methodLink RX9 133 yX2_add ∈ lw_tbl := List.mem_of_getElem? (i := 433) (by decide +kernel)
theorem im_X2_add : Cond.instanceMethod yX2_add ∈ lw_tbl := List.mem_of_getElem? (i := 434) (by decide +kernel)
theorem se_X2_add : Cond.selects RX2 yX2_add yX2_add ∈ lw_tbl := List.mem_of_getElem? (i := 435) (by decide +kernel)
theorem cd_X2_add : Cond.code yX2_add cX2_add 4 (some (.object "CleaningBench$Law")) ∈ lw_tbl := List.mem_of_getElem? (i := 436) (by decide +kernel)
theorem ml_L_65 : Cond.methodLink RL 65 yX9_among ∈ lw_tbl := List.mem_of_getElem? (i := 437) (by decide +kernel)
theorem im_X9_among : Cond.instanceMethod yX9_among ∈ lw_tbl := List.mem_of_getElem? (i := 438) (by decide +kernel)
theorem se_X9_among : Cond.selects RX9 yX9_among yX9_among ∈ lw_tbl := List.mem_of_getElem? (i := 439) (by decide +kernel)
theorem cd_X9_among : Cond.code yX9_among cX9_among 7 (some .int) ∈ lw_tbl := List.mem_of_getElem? (i := 440) (by decide +kernel)
theorem ml_L_70 : Cond.methodLink RL 70 yX9_force ∈ lw_tbl := List.mem_of_getElem? (i := 441) (by decide +kernel)
theorem im_X9_force : Cond.instanceMethod yX9_force ∈ lw_tbl := List.mem_of_getElem? (i := 442) (by decide +kernel)
theorem se_X9_force : Cond.selects RX9 yX9_force yX9_force ∈ lw_tbl := List.mem_of_getElem? (i := 443) (by decide +kernel)
theorem cd_X9_force : Cond.code yX9_force cX9_force 4 (some .int) ∈ lw_tbl := List.mem_of_getElem? (i := 444) (by decide +kernel)
theorem ml_X9_154 : Cond.methodLink RX9 154 yX9_isLaw ∈ lw_tbl := List.mem_of_getElem? (i := 445) (by decide +kernel)
theorem im_X9_isLaw : Cond.instanceMethod yX9_isLaw ∈ lw_tbl := List.mem_of_getElem? (i := 447) (by decide +kernel)
theorem cd_X9_isLaw : Cond.code yX9_isLaw cX9_isLaw 2 (some .boolean) ∈ lw_tbl := List.mem_of_getElem? (i := 448) (by decide +kernel)
theorem ml_L_74 : Cond.methodLink RL 74 yX9_most ∈ lw_tbl := List.mem_of_getElem? (i := 449) (by decide +kernel)
theorem im_X9_most : Cond.instanceMethod yX9_most ∈ lw_tbl := List.mem_of_getElem? (i := 450) (by decide +kernel)
theorem se_X9_most : Cond.selects RX9 yX9_most yX9_most ∈ lw_tbl := List.mem_of_getElem? (i := 451) (by decide +kernel)
theorem cd_X9_most : Cond.code yX9_most cX9_most 2 (some .long) ∈ lw_tbl := List.mem_of_getElem? (i := 452) (by decide +kernel)
theorem co_X9_163 : Cond.constantLong RX9 163 (-1) ∈ lw_tbl := List.mem_of_getElem? (i := 453) (by decide +kernel)
theorem ml_L_79 : Cond.methodLink RL 79 yX9_quarrels ∈ lw_tbl := List.mem_of_getElem? (i := 454) (by decide +kernel)
theorem im_X9_quarrels : Cond.instanceMethod yX9_quarrels ∈ lw_tbl := List.mem_of_getElem? (i := 455) (by decide +kernel)
theorem se_X9_quarrels : Cond.selects RX9 yX9_quarrels yX9_quarrels ∈ lw_tbl := List.mem_of_getElem? (i := 456) (by decide +kernel)
theorem cd_X9_quarrels : Cond.code yX9_quarrels cX9_quarrels 2 (some .int) ∈ lw_tbl := List.mem_of_getElem? (i := 457) (by decide +kernel)
theorem ml_X9_168 : Cond.methodLink RX9 168 yX7_kept ∈ lw_tbl := List.mem_of_getElem? (i := 458) (by decide +kernel)
theorem im_X7_kept : Cond.instanceMethod yX7_kept ∈ lw_tbl := List.mem_of_getElem? (i := 459) (by decide +kernel)
theorem se_X7_kept : Cond.selects RX7 yX7_kept yX7_kept ∈ lw_tbl := List.mem_of_getElem? (i := 460) (by decide +kernel)
theorem cd_X7_kept : Cond.code yX7_kept cX7_kept 3 (some .int) ∈ lw_tbl := List.mem_of_getElem? (i := 461) (by decide +kernel)
theorem ml_X9_171 : Cond.methodLink RX9 171 yX2_find ∈ lw_tbl := List.mem_of_getElem? (i := 462) (by decide +kernel)
theorem im_X2_find : Cond.instanceMethod yX2_find ∈ lw_tbl := List.mem_of_getElem? (i := 463) (by decide +kernel)
theorem se_X2_find : Cond.selects RX2 yX2_find yX2_find ∈ lw_tbl := List.mem_of_getElem? (i := 464) (by decide +kernel)
theorem cd_X2_find : Cond.code yX2_find cX2_find 3 none ∈ lw_tbl := List.mem_of_getElem? (i := 465) (by decide +kernel)
theorem ml_X2_47 : Cond.methodLink RX2 47 yX2_findPairs ∈ lw_tbl := List.mem_of_getElem? (i := 466) (by decide +kernel)
theorem im_X2_findPairs : Cond.instanceMethod yX2_findPairs ∈ lw_tbl := List.mem_of_getElem? (i := 467) (by decide +kernel)
theorem se_X2_findPairs : Cond.selects RX2 yX2_findPairs yX2_findPairs ∈ lw_tbl := List.mem_of_getElem? (i := 468) (by decide +kernel)
theorem cd_X2_findPairs : Cond.code yX2_findPairs cX2_findPairs 6 none ∈ lw_tbl := List.mem_of_getElem? (i := 469) (by decide +kernel)
theorem ml_X2_98 : Cond.methodLink RX2 98 yX7_withCell ∈ lw_tbl := List.mem_of_getElem? (i := 470) (by decide +kernel)
theorem im_X7_withCell : Cond.instanceMethod yX7_withCell ∈ lw_tbl := List.mem_of_getElem? (i := 471) (by decide +kernel)
theorem se_X7_withCell : Cond.selects RX7 yX7_withCell yX7_withCell ∈ lw_tbl := List.mem_of_getElem? (i := 472) (by decide +kernel)
theorem cd_X7_withCell : Cond.code yX7_withCell cX7_withCell 6 (some .int) ∈ lw_tbl := List.mem_of_getElem? (i := 473) (by decide +kernel)
theorem mn_X7_32 : Cond.methodLinkNest RX7 32 yX9_isIn RX9 ∈ lw_tbl := List.mem_of_getElem? (i := 474) (by decide +kernel)
theorem st_X9_isIn : Cond.static yX9_isIn ∈ lw_tbl := List.mem_of_getElem? (i := 475) (by decide +kernel)
theorem cd_X9_isIn : Cond.code yX9_isIn cX9_isIn 2 (some .boolean) ∈ lw_tbl := List.mem_of_getElem? (i := 476) (by decide +kernel)
theorem mn_X2_62 : Cond.methodLinkNest RX2 62 yX9_isIn RX9 ∈ lw_tbl := List.mem_of_getElem? (i := 477) (by decide +kernel)
theorem ml_X2_112 : Cond.methodLink RX2 112 yX2_quarrelTogether ∈ lw_tbl := List.mem_of_getElem? (i := 478) (by decide +kernel)
theorem im_X2_quarrelTogether : Cond.instanceMethod yX2_quarrelTogether ∈ lw_tbl := List.mem_of_getElem? (i := 479) (by decide +kernel)
theorem se_X2_quarrelTogether : Cond.selects RX2 yX2_quarrelTogether yX2_quarrelTogether ∈ lw_tbl := List.mem_of_getElem? (i := 480) (by decide +kernel)
theorem cd_X2_quarrelTogether : Cond.code yX2_quarrelTogether cX2_quarrelTogether 8 (some .boolean) ∈ lw_tbl := List.mem_of_getElem? (i := 481) (by decide +kernel)
theorem ml_X2_116 : Cond.methodLink RX2 116 yX2_areNearer ∈ lw_tbl := List.mem_of_getElem? (i := 482) (by decide +kernel)
theorem im_X2_areNearer : Cond.instanceMethod yX2_areNearer ∈ lw_tbl := List.mem_of_getElem? (i := 483) (by decide +kernel)
theorem se_X2_areNearer : Cond.selects RX2 yX2_areNearer yX2_areNearer ∈ lw_tbl := List.mem_of_getElem? (i := 484) (by decide +kernel)
theorem cd_X2_areNearer : Cond.code yX2_areNearer cX2_areNearer 9 (some .boolean) ∈ lw_tbl := List.mem_of_getElem? (i := 485) (by decide +kernel)
theorem ml_X2_76 : Cond.methodLink RX2 76 yX2_addFound ∈ lw_tbl := List.mem_of_getElem? (i := 486) (by decide +kernel)
theorem im_X2_addFound : Cond.instanceMethod yX2_addFound ∈ lw_tbl := List.mem_of_getElem? (i := 487) (by decide +kernel)
theorem se_X2_addFound : Cond.selects RX2 yX2_addFound yX2_addFound ∈ lw_tbl := List.mem_of_getElem? (i := 488) (by decide +kernel)
theorem cd_X2_addFound : Cond.code yX2_addFound cX2_addFound 2 none ∈ lw_tbl := List.mem_of_getElem? (i := 489) (by decide +kernel)
theorem ml_X2_50 : Cond.methodLink RX2 50 yX2_findSums ∈ lw_tbl := List.mem_of_getElem? (i := 490) (by decide +kernel)
theorem im_X2_findSums : Cond.instanceMethod yX2_findSums ∈ lw_tbl := List.mem_of_getElem? (i := 491) (by decide +kernel)
theorem se_X2_findSums : Cond.selects RX2 yX2_findSums yX2_findSums ∈ lw_tbl := List.mem_of_getElem? (i := 492) (by decide +kernel)
theorem cd_X2_findSums : Cond.code yX2_findSums cX2_findSums 9 none ∈ lw_tbl := List.mem_of_getElem? (i := 493) (by decide +kernel)
theorem ml_X2_120 : Cond.methodLink RX2 120 yX7_aboveZero ∈ lw_tbl := List.mem_of_getElem? (i := 494) (by decide +kernel)
theorem im_X7_aboveZero : Cond.instanceMethod yX7_aboveZero ∈ lw_tbl := List.mem_of_getElem? (i := 495) (by decide +kernel)
theorem se_X7_aboveZero : Cond.selects RX7 yX7_aboveZero yX7_aboveZero ∈ lw_tbl := List.mem_of_getElem? (i := 496) (by decide +kernel)
theorem cd_X7_aboveZero : Cond.code yX7_aboveZero cX7_aboveZero 5 (some .int) ∈ lw_tbl := List.mem_of_getElem? (i := 497) (by decide +kernel)
theorem ml_X2_108 : Cond.methodLink RX2 108 yX7_withNumber ∈ lw_tbl := List.mem_of_getElem? (i := 498) (by decide +kernel)
theorem im_X7_withNumber : Cond.instanceMethod yX7_withNumber ∈ lw_tbl := List.mem_of_getElem? (i := 499) (by decide +kernel)
theorem se_X7_withNumber : Cond.selects RX7 yX7_withNumber yX7_withNumber ∈ lw_tbl := List.mem_of_getElem? (i := 500) (by decide +kernel)
theorem cd_X7_withNumber : Cond.code yX7_withNumber cX7_withNumber 9 (some .int) ∈ lw_tbl := List.mem_of_getElem? (i := 501) (by decide +kernel)
theorem ml_X2_124 : Cond.methodLink RX2 124 yX2_isLeastSum ∈ lw_tbl := List.mem_of_getElem? (i := 502) (by decide +kernel)
theorem im_X2_isLeastSum : Cond.instanceMethod yX2_isLeastSum ∈ lw_tbl := List.mem_of_getElem? (i := 503) (by decide +kernel)
theorem se_X2_isLeastSum : Cond.selects RX2 yX2_isLeastSum yX2_isLeastSum ∈ lw_tbl := List.mem_of_getElem? (i := 504) (by decide +kernel)
theorem cd_X2_isLeastSum : Cond.code yX2_isLeastSum cX2_isLeastSum 13 (some .boolean) ∈ lw_tbl := List.mem_of_getElem? (i := 505) (by decide +kernel)
theorem ml_X2_53 : Cond.methodLink RX2 53 yX2_findUnhelped ∈ lw_tbl := List.mem_of_getElem? (i := 506) (by decide +kernel)
theorem im_X2_findUnhelped : Cond.instanceMethod yX2_findUnhelped ∈ lw_tbl := List.mem_of_getElem? (i := 507) (by decide +kernel)
theorem se_X2_findUnhelped : Cond.selects RX2 yX2_findUnhelped yX2_findUnhelped ∈ lw_tbl := List.mem_of_getElem? (i := 508) (by decide +kernel)
theorem cd_X2_findUnhelped : Cond.code yX2_findUnhelped cX2_findUnhelped 7 none ∈ lw_tbl := List.mem_of_getElem? (i := 509) (by decide +kernel)
theorem ml_X2_56 : Cond.methodLink RX2 56 yX2_findSingles ∈ lw_tbl := List.mem_of_getElem? (i := 510) (by decide +kernel)
theorem im_X2_findSingles : Cond.instanceMethod yX2_findSingles ∈ lw_tbl := List.mem_of_getElem? (i := 511) (by decide +kernel)
theorem se_X2_findSingles : Cond.selects RX2 yX2_findSingles yX2_findSingles ∈ lw_tbl := List.mem_of_getElem? (i := 512) (by decide +kernel)
theorem cd_X2_findSingles : Cond.code yX2_findSingles cX2_findSingles 4 none ∈ lw_tbl := List.mem_of_getElem? (i := 513) (by decide +kernel)
theorem ml_X2_72 : Cond.methodLink RX2 72 yX2_quarrelsAlone ∈ lw_tbl := List.mem_of_getElem? (i := 514) (by decide +kernel)
theorem im_X2_quarrelsAlone : Cond.instanceMethod yX2_quarrelsAlone ∈ lw_tbl := List.mem_of_getElem? (i := 515) (by decide +kernel)
theorem se_X2_quarrelsAlone : Cond.selects RX2 yX2_quarrelsAlone yX2_quarrelsAlone ∈ lw_tbl := List.mem_of_getElem? (i := 516) (by decide +kernel)
theorem cd_X2_quarrelsAlone : Cond.code yX2_quarrelsAlone cX2_quarrelsAlone 5 (some .boolean) ∈ lw_tbl := List.mem_of_getElem? (i := 517) (by decide +kernel)
theorem ml_L_84 : Cond.methodLink RL 84 yX9_quarrel ∈ lw_tbl := List.mem_of_getElem? (i := 518) (by decide +kernel)
theorem im_X9_quarrel : Cond.instanceMethod yX9_quarrel ∈ lw_tbl := List.mem_of_getElem? (i := 519) (by decide +kernel)
theorem se_X9_quarrel : Cond.selects RX9 yX9_quarrel yX9_quarrel ∈ lw_tbl := List.mem_of_getElem? (i := 520) (by decide +kernel)
theorem cd_X9_quarrel : Cond.code yX9_quarrel cX9_quarrel 3 (some .int) ∈ lw_tbl := List.mem_of_getElem? (i := 521) (by decide +kernel)
theorem ml_L_88 : Cond.methodLink RL 88 yX9_clean ∈ lw_tbl := List.mem_of_getElem? (i := 522) (by decide +kernel)
theorem im_X9_clean : Cond.instanceMethod yX9_clean ∈ lw_tbl := List.mem_of_getElem? (i := 523) (by decide +kernel)
theorem se_X9_clean : Cond.selects RX9 yX9_clean yX9_clean ∈ lw_tbl := List.mem_of_getElem? (i := 524) (by decide +kernel)
theorem cd_X9_clean : Cond.code yX9_clean cX9_clean 1 (some .int) ∈ lw_tbl := List.mem_of_getElem? (i := 525) (by decide +kernel)
theorem ml_X9_180 : Cond.methodLink RX9 180 yX2_leastBroken ∈ lw_tbl := List.mem_of_getElem? (i := 526) (by decide +kernel)
theorem im_X2_leastBroken : Cond.instanceMethod yX2_leastBroken ∈ lw_tbl := List.mem_of_getElem? (i := 527) (by decide +kernel)
theorem se_X2_leastBroken : Cond.selects RX2 yX2_leastBroken yX2_leastBroken ∈ lw_tbl := List.mem_of_getElem? (i := 528) (by decide +kernel)
theorem cd_X2_leastBroken : Cond.code yX2_leastBroken cX2_leastBroken 3 (some .int) ∈ lw_tbl := List.mem_of_getElem? (i := 529) (by decide +kernel)
theorem ml_X2_40 : Cond.methodLink RX2 40 yX2_find ∈ lw_tbl := List.mem_of_getElem? (i := 530) (by decide +kernel)
theorem ml_L_93 : Cond.methodLink RL 93 yX9_breaks ∈ lw_tbl := List.mem_of_getElem? (i := 531) (by decide +kernel)
theorem im_X9_breaks : Cond.instanceMethod yX9_breaks ∈ lw_tbl := List.mem_of_getElem? (i := 532) (by decide +kernel)
theorem se_X9_breaks : Cond.selects RX9 yX9_breaks yX9_breaks ∈ lw_tbl := List.mem_of_getElem? (i := 533) (by decide +kernel)
theorem cd_X9_breaks : Cond.code yX9_breaks cX9_breaks 2 (some .int) ∈ lw_tbl := List.mem_of_getElem? (i := 534) (by decide +kernel)
theorem ml_L_97 : Cond.methodLink RL 97 yX9_mends ∈ lw_tbl := List.mem_of_getElem? (i := 535) (by decide +kernel)
theorem im_X9_mends : Cond.instanceMethod yX9_mends ∈ lw_tbl := List.mem_of_getElem? (i := 536) (by decide +kernel)
theorem se_X9_mends : Cond.selects RX9 yX9_mends yX9_mends ∈ lw_tbl := List.mem_of_getElem? (i := 537) (by decide +kernel)
theorem cd_X9_mends : Cond.code yX9_mends cX9_mends 1 (some .int) ∈ lw_tbl := List.mem_of_getElem? (i := 538) (by decide +kernel)
theorem ml_X9_183 : Cond.methodLink RX9 183 yX3_find ∈ lw_tbl := List.mem_of_getElem? (i := 539) (by decide +kernel)
theorem im_X3_find : Cond.instanceMethod yX3_find ∈ lw_tbl := List.mem_of_getElem? (i := 540) (by decide +kernel)
theorem se_X3_find : Cond.selects RX3 yX3_find yX3_find ∈ lw_tbl := List.mem_of_getElem? (i := 541) (by decide +kernel)
theorem cd_X3_find : Cond.code yX3_find cX3_find 4 none ∈ lw_tbl := List.mem_of_getElem? (i := 542) (by decide +kernel)
theorem ml_X3_30 : Cond.methodLink RX3 30 yX7_kept ∈ lw_tbl := List.mem_of_getElem? (i := 543) (by decide +kernel)
theorem ml_X3_39 : Cond.methodLink RX3 39 yX3_findBroken ∈ lw_tbl := List.mem_of_getElem? (i := 544) (by decide +kernel)
theorem im_X3_findBroken : Cond.instanceMethod yX3_findBroken ∈ lw_tbl := List.mem_of_getElem? (i := 545) (by decide +kernel)
theorem se_X3_findBroken : Cond.selects RX3 yX3_findBroken yX3_findBroken ∈ lw_tbl := List.mem_of_getElem? (i := 546) (by decide +kernel)
theorem cd_X3_findBroken : Cond.code yX3_findBroken cX3_findBroken 3 none ∈ lw_tbl := List.mem_of_getElem? (i := 547) (by decide +kernel)
theorem mn_X3_54 : Cond.methodLinkNest RX3 54 yX9_unmark RX9 ∈ lw_tbl := List.mem_of_getElem? (i := 548) (by decide +kernel)
theorem st_X9_unmark : Cond.static yX9_unmark ∈ lw_tbl := List.mem_of_getElem? (i := 549) (by decide +kernel)
theorem cd_X9_unmark : Cond.code yX9_unmark cX9_unmark 4 none ∈ lw_tbl := List.mem_of_getElem? (i := 550) (by decide +kernel)
theorem ml_X3_74 : Cond.methodLink RX3 74 yX2_find ∈ lw_tbl := List.mem_of_getElem? (i := 551) (by decide +kernel)
theorem mn_X3_84 : Cond.methodLinkNest RX3 84 yX9_markWholes RX9 ∈ lw_tbl := List.mem_of_getElem? (i := 552) (by decide +kernel)
theorem st_X9_markWholes : Cond.static yX9_markWholes ∈ lw_tbl := List.mem_of_getElem? (i := 553) (by decide +kernel)
theorem cd_X9_markWholes : Cond.code yX9_markWholes cX9_markWholes 5 none ∈ lw_tbl := List.mem_of_getElem? (i := 554) (by decide +kernel)
theorem ml_X3_87 : Cond.methodLink RX3 87 yX3_breakAmong ∈ lw_tbl := List.mem_of_getElem? (i := 555) (by decide +kernel)
theorem im_X3_breakAmong : Cond.instanceMethod yX3_breakAmong ∈ lw_tbl := List.mem_of_getElem? (i := 556) (by decide +kernel)
theorem se_X3_breakAmong : Cond.selects RX3 yX3_breakAmong yX3_breakAmong ∈ lw_tbl := List.mem_of_getElem? (i := 557) (by decide +kernel)
theorem cd_X3_breakAmong : Cond.code yX3_breakAmong cX3_breakAmong 6 none ∈ lw_tbl := List.mem_of_getElem? (i := 558) (by decide +kernel)
theorem ml_X3_97 : Cond.methodLink RX3 97 yX7_withCell ∈ lw_tbl := List.mem_of_getElem? (i := 559) (by decide +kernel)
theorem mn_X3_50 : Cond.methodLinkNest RX3 50 yX9_isIn RX9 ∈ lw_tbl := List.mem_of_getElem? (i := 560) (by decide +kernel)
theorem ml_X3_116 : Cond.methodLink RX3 116 yX7_withNumber ∈ lw_tbl := List.mem_of_getElem? (i := 561) (by decide +kernel)
theorem ml_X3_120 : Cond.methodLink RX3 120 yX3_breakWithout ∈ lw_tbl := List.mem_of_getElem? (i := 562) (by decide +kernel)
theorem im_X3_breakWithout : Cond.instanceMethod yX3_breakWithout ∈ lw_tbl := List.mem_of_getElem? (i := 563) (by decide +kernel)
theorem se_X3_breakWithout : Cond.selects RX3 yX3_breakWithout yX3_breakWithout ∈ lw_tbl := List.mem_of_getElem? (i := 564) (by decide +kernel)
theorem cd_X3_breakWithout : Cond.code yX3_breakWithout cX3_breakWithout 4 none ∈ lw_tbl := List.mem_of_getElem? (i := 565) (by decide +kernel)
theorem ml_X3_45 : Cond.methodLink RX3 45 yX3_isMoreThanOne ∈ lw_tbl := List.mem_of_getElem? (i := 566) (by decide +kernel)
theorem im_X3_isMoreThanOne : Cond.instanceMethod yX3_isMoreThanOne ∈ lw_tbl := List.mem_of_getElem? (i := 567) (by decide +kernel)
theorem se_X3_isMoreThanOne : Cond.selects RX3 yX3_isMoreThanOne yX3_isMoreThanOne ∈ lw_tbl := List.mem_of_getElem? (i := 568) (by decide +kernel)
theorem cd_X3_isMoreThanOne : Cond.code yX3_isMoreThanOne cX3_isMoreThanOne 3 (some .boolean) ∈ lw_tbl := List.mem_of_getElem? (i := 569) (by decide +kernel)
theorem ml_L_101 : Cond.methodLink RL 101 yX9_mending ∈ lw_tbl := List.mem_of_getElem? (i := 570) (by decide +kernel)
theorem im_X9_mending : Cond.instanceMethod yX9_mending ∈ lw_tbl := List.mem_of_getElem? (i := 571) (by decide +kernel)
theorem se_X9_mending : Cond.selects RX9 yX9_mending yX9_mending ∈ lw_tbl := List.mem_of_getElem? (i := 572) (by decide +kernel)
theorem cd_X9_mending : Cond.code yX9_mending cX9_mending 2 (some .int) ∈ lw_tbl := List.mem_of_getElem? (i := 573) (by decide +kernel)
theorem ml_L_105 : Cond.methodLink RL 105 yX9_price ∈ lw_tbl := List.mem_of_getElem? (i := 574) (by decide +kernel)
theorem im_X9_price : Cond.instanceMethod yX9_price ∈ lw_tbl := List.mem_of_getElem? (i := 575) (by decide +kernel)
theorem se_X9_price : Cond.selects RX9 yX9_price yX9_price ∈ lw_tbl := List.mem_of_getElem? (i := 576) (by decide +kernel)
theorem cd_X9_price : Cond.code yX9_price cX9_price 1 (some .int) ∈ lw_tbl := List.mem_of_getElem? (i := 577) (by decide +kernel)
theorem ml_X9_189 : Cond.methodLink RX9 189 yX3_cheapest ∈ lw_tbl := List.mem_of_getElem? (i := 578) (by decide +kernel)
theorem im_X3_cheapest : Cond.instanceMethod yX3_cheapest ∈ lw_tbl := List.mem_of_getElem? (i := 579) (by decide +kernel)
theorem se_X3_cheapest : Cond.selects RX3 yX3_cheapest yX3_cheapest ∈ lw_tbl := List.mem_of_getElem? (i := 580) (by decide +kernel)
theorem cd_X3_cheapest : Cond.code yX3_cheapest cX3_cheapest 5 (some .int) ∈ lw_tbl := List.mem_of_getElem? (i := 581) (by decide +kernel)
theorem ml_X3_124 : Cond.methodLink RX3 124 yX7_trustOf ∈ lw_tbl := List.mem_of_getElem? (i := 582) (by decide +kernel)
theorem im_X7_trustOf : Cond.instanceMethod yX7_trustOf ∈ lw_tbl := List.mem_of_getElem? (i := 583) (by decide +kernel)
theorem se_X7_trustOf : Cond.selects RX7 yX7_trustOf yX7_trustOf ∈ lw_tbl := List.mem_of_getElem? (i := 584) (by decide +kernel)
theorem cd_X7_trustOf : Cond.code yX7_trustOf cX7_trustOf 4 (some .int) ∈ lw_tbl := List.mem_of_getElem? (i := 585) (by decide +kernel)
theorem ml_X9_192 : Cond.methodLink RX9 192 yX7_trustOf ∈ lw_tbl := List.mem_of_getElem? (i := 586) (by decide +kernel)
theorem ml_L_109 : Cond.methodLink RL 109 yX9_best ∈ lw_tbl := List.mem_of_getElem? (i := 587) (by decide +kernel)
theorem im_X9_best : Cond.instanceMethod yX9_best ∈ lw_tbl := List.mem_of_getElem? (i := 588) (by decide +kernel)
theorem se_X9_best : Cond.selects RX9 yX9_best yX9_best ∈ lw_tbl := List.mem_of_getElem? (i := 589) (by decide +kernel)
theorem cd_X9_best : Cond.code yX9_best cX9_best 1 (some .int) ∈ lw_tbl := List.mem_of_getElem? (i := 590) (by decide +kernel)
theorem ml_L_113 : Cond.methodLink RL 113 yX9_blame ∈ lw_tbl := List.mem_of_getElem? (i := 591) (by decide +kernel)
theorem im_X9_blame : Cond.instanceMethod yX9_blame ∈ lw_tbl := List.mem_of_getElem? (i := 592) (by decide +kernel)
theorem se_X9_blame : Cond.selects RX9 yX9_blame yX9_blame ∈ lw_tbl := List.mem_of_getElem? (i := 593) (by decide +kernel)
theorem cd_X9_blame : Cond.code yX9_blame cX9_blame 4 (some .int) ∈ lw_tbl := List.mem_of_getElem? (i := 594) (by decide +kernel)
theorem ml_X9_195 : Cond.methodLink RX9 195 yX9_isIn ∈ lw_tbl := List.mem_of_getElem? (i := 595) (by decide +kernel)
theorem ml_L_117 : Cond.methodLink RL 117 yX9_sum ∈ lw_tbl := List.mem_of_getElem? (i := 596) (by decide +kernel)
theorem im_X9_sum : Cond.instanceMethod yX9_sum ∈ lw_tbl := List.mem_of_getElem? (i := 597) (by decide +kernel)
theorem se_X9_sum : Cond.selects RX9 yX9_sum yX9_sum ∈ lw_tbl := List.mem_of_getElem? (i := 598) (by decide +kernel)
theorem cd_X9_sum : Cond.code yX9_sum cX9_sum 10 (some .long) ∈ lw_tbl := List.mem_of_getElem? (i := 599) (by decide +kernel)
theorem ml_X9_198 : Cond.methodLink RX9 198 yX3_leftBy ∈ lw_tbl := List.mem_of_getElem? (i := 600) (by decide +kernel)
theorem im_X3_leftBy : Cond.instanceMethod yX3_leftBy ∈ lw_tbl := List.mem_of_getElem? (i := 601) (by decide +kernel)
theorem se_X3_leftBy : Cond.selects RX3 yX3_leftBy yX3_leftBy ∈ lw_tbl := List.mem_of_getElem? (i := 602) (by decide +kernel)
theorem cd_X3_leftBy : Cond.code yX3_leftBy cX3_leftBy 2 (some .int) ∈ lw_tbl := List.mem_of_getElem? (i := 603) (by decide +kernel)
theorem ml_X9_201 : Cond.methodLink RX9 201 yX7_added ∈ lw_tbl := List.mem_of_getElem? (i := 604) (by decide +kernel)
theorem im_X7_added : Cond.instanceMethod yX7_added ∈ lw_tbl := List.mem_of_getElem? (i := 605) (by decide +kernel)
theorem se_X7_added : Cond.selects RX7 yX7_added yX7_added ∈ lw_tbl := List.mem_of_getElem? (i := 606) (by decide +kernel)
theorem cd_X7_added : Cond.code yX7_added cX7_added 8 (some .long) ∈ lw_tbl := List.mem_of_getElem? (i := 607) (by decide +kernel)
theorem ml_X7_48 : Cond.methodLink RX7 48 yX7_withCell ∈ lw_tbl := List.mem_of_getElem? (i := 608) (by decide +kernel)
theorem ml_L_122 : Cond.methodLink RL 122 yX9_mend ∈ lw_tbl := List.mem_of_getElem? (i := 609) (by decide +kernel)
theorem im_X9_mend : Cond.instanceMethod yX9_mend ∈ lw_tbl := List.mem_of_getElem? (i := 610) (by decide +kernel)
theorem se_X9_mend : Cond.selects RX9 yX9_mend yX9_mend ∈ lw_tbl := List.mem_of_getElem? (i := 611) (by decide +kernel)
theorem cd_X9_mend : Cond.code yX9_mend cX9_mend 2 (some .int) ∈ lw_tbl := List.mem_of_getElem? (i := 612) (by decide +kernel)
theorem ml_X9_205 : Cond.methodLink RX9 205 yX7_drop ∈ lw_tbl := List.mem_of_getElem? (i := 613) (by decide +kernel)
theorem im_X7_drop : Cond.instanceMethod yX7_drop ∈ lw_tbl := List.mem_of_getElem? (i := 614) (by decide +kernel)
theorem se_X7_drop : Cond.selects RX7 yX7_drop yX7_drop ∈ lw_tbl := List.mem_of_getElem? (i := 615) (by decide +kernel)
theorem cd_X7_drop : Cond.code yX7_drop cX7_drop 3 none ∈ lw_tbl := List.mem_of_getElem? (i := 616) (by decide +kernel)
theorem ml_X9_209 : Cond.methodLink RX9 209 yJ6_bitCount_0f7a4 ∈ lw_tbl := List.mem_of_getElem? (i := 617) (by decide +kernel)
theorem st_J6_bitCount_0f7a4 : Cond.static yJ6_bitCount_0f7a4 ∈ lw_tbl := List.mem_of_getElem? (i := 618) (by decide +kernel)
theorem cd_J6_bitCount_0f7a4 : Cond.code yJ6_bitCount_0f7a4 cJ6_bitCount_0f7a4 1 (some .int) ∈ lw_tbl := List.mem_of_getElem? (i := 619) (by decide +kernel)
theorem co_J6_265 : Cond.constant RJ6 265 1431655765 ∈ lw_tbl := List.mem_of_getElem? (i := 620) (by decide +kernel)
theorem co_J6_266 : Cond.constant RJ6 266 858993459 ∈ lw_tbl := List.mem_of_getElem? (i := 621) (by decide +kernel)
theorem co_J6_267 : Cond.constant RJ6 267 252645135 ∈ lw_tbl := List.mem_of_getElem? (i := 622) (by decide +kernel)
theorem ml_L_126 : Cond.methodLink RL 126 yX9_settle ∈ lw_tbl := List.mem_of_getElem? (i := 623) (by decide +kernel)
theorem im_X9_settle : Cond.instanceMethod yX9_settle ∈ lw_tbl := List.mem_of_getElem? (i := 624) (by decide +kernel)
theorem se_X9_settle : Cond.selects RX9 yX9_settle yX9_settle ∈ lw_tbl := List.mem_of_getElem? (i := 625) (by decide +kernel)
theorem cd_X9_settle : Cond.code yX9_settle cX9_settle 3 (some .int) ∈ lw_tbl := List.mem_of_getElem? (i := 626) (by decide +kernel)
theorem ml_X9_215 : Cond.methodLink RX9 215 yX7_settleAll ∈ lw_tbl := List.mem_of_getElem? (i := 627) (by decide +kernel)
theorem im_X7_settleAll : Cond.instanceMethod yX7_settleAll ∈ lw_tbl := List.mem_of_getElem? (i := 628) (by decide +kernel)
theorem se_X7_settleAll : Cond.selects RX7 yX7_settleAll yX7_settleAll ∈ lw_tbl := List.mem_of_getElem? (i := 629) (by decide +kernel)
theorem cd_X7_settleAll : Cond.code yX7_settleAll cX7_settleAll 8 (some .int) ∈ lw_tbl := List.mem_of_getElem? (i := 630) (by decide +kernel)
theorem ml_X7_52 : Cond.methodLink RX7 52 yX7_kept ∈ lw_tbl := List.mem_of_getElem? (i := 631) (by decide +kernel)
theorem ml_X7_55 : Cond.methodLink RX7 55 yX7_withNumber ∈ lw_tbl := List.mem_of_getElem? (i := 632) (by decide +kernel)
theorem ml_X7_59 : Cond.methodLink RX7 59 yX7_settleGroup ∈ lw_tbl := List.mem_of_getElem? (i := 633) (by decide +kernel)
theorem im_X7_settleGroup : Cond.instanceMethod yX7_settleGroup ∈ lw_tbl := List.mem_of_getElem? (i := 634) (by decide +kernel)
theorem se_X7_settleGroup : Cond.selects RX7 yX7_settleGroup yX7_settleGroup ∈ lw_tbl := List.mem_of_getElem? (i := 635) (by decide +kernel)
theorem cd_X7_settleGroup : Cond.code yX7_settleGroup cX7_settleGroup 8 (some .int) ∈ lw_tbl := List.mem_of_getElem? (i := 636) (by decide +kernel)
theorem ml_X7_62 : Cond.methodLink RX7 62 yX7_mostTrusted ∈ lw_tbl := List.mem_of_getElem? (i := 637) (by decide +kernel)
theorem im_X7_mostTrusted : Cond.instanceMethod yX7_mostTrusted ∈ lw_tbl := List.mem_of_getElem? (i := 638) (by decide +kernel)
theorem se_X7_mostTrusted : Cond.selects RX7 yX7_mostTrusted yX7_mostTrusted ∈ lw_tbl := List.mem_of_getElem? (i := 639) (by decide +kernel)
theorem cd_X7_mostTrusted : Cond.code yX7_mostTrusted cX7_mostTrusted 11 (some .long) ∈ lw_tbl := List.mem_of_getElem? (i := 640) (by decide +kernel)
theorem ml_X7_66 : Cond.methodLink RX7 66 yX7_trustOf ∈ lw_tbl := List.mem_of_getElem? (i := 641) (by decide +kernel)
theorem ml_L_130 : Cond.methodLink RL 130 yX9_ask ∈ lw_tbl := List.mem_of_getElem? (i := 642) (by decide +kernel)
theorem im_X9_ask : Cond.instanceMethod yX9_ask ∈ lw_tbl := List.mem_of_getElem? (i := 643) (by decide +kernel)
theorem se_X9_ask : Cond.selects RX9 yX9_ask yX9_ask ∈ lw_tbl := List.mem_of_getElem? (i := 644) (by decide +kernel)
theorem cd_X9_ask : Cond.code yX9_ask cX9_ask 2 (some .int) ∈ lw_tbl := List.mem_of_getElem? (i := 645) (by decide +kernel)
theorem ml_X9_222 : Cond.methodLink RX9 222 yX5_clear ∈ lw_tbl := List.mem_of_getElem? (i := 646) (by decide +kernel)
theorem im_X5_clear : Cond.instanceMethod yX5_clear ∈ lw_tbl := List.mem_of_getElem? (i := 647) (by decide +kernel)
theorem se_X5_clear : Cond.selects RX5 yX5_clear yX5_clear ∈ lw_tbl := List.mem_of_getElem? (i := 648) (by decide +kernel)
theorem cd_X5_clear : Cond.code yX5_clear cX5_clear 1 none ∈ lw_tbl := List.mem_of_getElem? (i := 649) (by decide +kernel)
theorem ml_L_134 : Cond.methodLink RL 134 yX9_part ∈ lw_tbl := List.mem_of_getElem? (i := 650) (by decide +kernel)
theorem im_X9_part : Cond.instanceMethod yX9_part ∈ lw_tbl := List.mem_of_getElem? (i := 651) (by decide +kernel)
theorem se_X9_part : Cond.selects RX9 yX9_part yX9_part ∈ lw_tbl := List.mem_of_getElem? (i := 652) (by decide +kernel)
theorem cd_X9_part : Cond.code yX9_part cX9_part 3 (some .int) ∈ lw_tbl := List.mem_of_getElem? (i := 653) (by decide +kernel)
theorem ml_X9_225 : Cond.methodLink RX9 225 yX5_addPart ∈ lw_tbl := List.mem_of_getElem? (i := 654) (by decide +kernel)
theorem im_X5_addPart : Cond.instanceMethod yX5_addPart ∈ lw_tbl := List.mem_of_getElem? (i := 655) (by decide +kernel)
theorem se_X5_addPart : Cond.selects RX5 yX5_addPart yX5_addPart ∈ lw_tbl := List.mem_of_getElem? (i := 656) (by decide +kernel)
theorem cd_X5_addPart : Cond.code yX5_addPart cX5_addPart 4 (some .int) ∈ lw_tbl := List.mem_of_getElem? (i := 657) (by decide +kernel)
theorem ml_L_138 : Cond.methodLink RL 138 yX9_tell ∈ lw_tbl := List.mem_of_getElem? (i := 658) (by decide +kernel)
theorem im_X9_tell : Cond.instanceMethod yX9_tell ∈ lw_tbl := List.mem_of_getElem? (i := 659) (by decide +kernel)
theorem se_X9_tell : Cond.selects RX9 yX9_tell yX9_tell ∈ lw_tbl := List.mem_of_getElem? (i := 660) (by decide +kernel)
theorem cd_X9_tell : Cond.code yX9_tell cX9_tell 6 (some .int) ∈ lw_tbl := List.mem_of_getElem? (i := 661) (by decide +kernel)
theorem ml_X9_228 : Cond.methodLink RX9 228 yX9_faultOfPart ∈ lw_tbl := List.mem_of_getElem? (i := 662) (by decide +kernel)
theorem im_X9_faultOfPart : Cond.instanceMethod yX9_faultOfPart ∈ lw_tbl := List.mem_of_getElem? (i := 664) (by decide +kernel)
theorem cd_X9_faultOfPart : Cond.code yX9_faultOfPart cX9_faultOfPart 3 (some .int) ∈ lw_tbl := List.mem_of_getElem? (i := 665) (by decide +kernel)
theorem ml_X9_241 : Cond.methodLink RX9 241 yX9_isPart ∈ lw_tbl := List.mem_of_getElem? (i := 666) (by decide +kernel)
theorem im_X9_isPart : Cond.instanceMethod yX9_isPart ∈ lw_tbl := List.mem_of_getElem? (i := 668) (by decide +kernel)
theorem cd_X9_isPart : Cond.code yX9_isPart cX9_isPart 2 (some .boolean) ∈ lw_tbl := List.mem_of_getElem? (i := 669) (by decide +kernel)
theorem ml_L_142 : Cond.methodLink RL 142 yX9_join ∈ lw_tbl := List.mem_of_getElem? (i := 670) (by decide +kernel)
theorem im_X9_join : Cond.instanceMethod yX9_join ∈ lw_tbl := List.mem_of_getElem? (i := 671) (by decide +kernel)
theorem se_X9_join : Cond.selects RX9 yX9_join yX9_join ∈ lw_tbl := List.mem_of_getElem? (i := 672) (by decide +kernel)
theorem cd_X9_join : Cond.code yX9_join cX9_join 6 (some .int) ∈ lw_tbl := List.mem_of_getElem? (i := 673) (by decide +kernel)
theorem ml_X9_247 : Cond.methodLink RX9 247 yX5_addJoin ∈ lw_tbl := List.mem_of_getElem? (i := 674) (by decide +kernel)
theorem im_X5_addJoin : Cond.instanceMethod yX5_addJoin ∈ lw_tbl := List.mem_of_getElem? (i := 675) (by decide +kernel)
theorem se_X5_addJoin : Cond.selects RX5 yX5_addJoin yX5_addJoin ∈ lw_tbl := List.mem_of_getElem? (i := 676) (by decide +kernel)
theorem cd_X5_addJoin : Cond.code yX5_addJoin cX5_addJoin 6 (some .int) ∈ lw_tbl := List.mem_of_getElem? (i := 677) (by decide +kernel)
theorem ml_L_146 : Cond.methodLink RL 146 yX9_stands ∈ lw_tbl := List.mem_of_getElem? (i := 678) (by decide +kernel)
theorem im_X9_stands : Cond.instanceMethod yX9_stands ∈ lw_tbl := List.mem_of_getElem? (i := 679) (by decide +kernel)
theorem se_X9_stands : Cond.selects RX9 yX9_stands yX9_stands ∈ lw_tbl := List.mem_of_getElem? (i := 680) (by decide +kernel)
theorem cd_X9_stands : Cond.code yX9_stands cX9_stands 1 (some .int) ∈ lw_tbl := List.mem_of_getElem? (i := 681) (by decide +kernel)
theorem ml_X9_251 : Cond.methodLink RX9 251 yX5_standsIn ∈ lw_tbl := List.mem_of_getElem? (i := 682) (by decide +kernel)
theorem im_X5_standsIn : Cond.instanceMethod yX5_standsIn ∈ lw_tbl := List.mem_of_getElem? (i := 683) (by decide +kernel)
theorem se_X5_standsIn : Cond.selects RX5 yX5_standsIn yX5_standsIn ∈ lw_tbl := List.mem_of_getElem? (i := 684) (by decide +kernel)
theorem cd_X5_standsIn : Cond.code yX5_standsIn cX5_standsIn 4 (some .boolean) ∈ lw_tbl := List.mem_of_getElem? (i := 685) (by decide +kernel)
theorem ml_X5_65 : Cond.methodLink RX5 65 yX5_findFitting ∈ lw_tbl := List.mem_of_getElem? (i := 686) (by decide +kernel)
theorem im_X5_findFitting : Cond.instanceMethod yX5_findFitting ∈ lw_tbl := List.mem_of_getElem? (i := 687) (by decide +kernel)
theorem se_X5_findFitting : Cond.selects RX5 yX5_findFitting yX5_findFitting ∈ lw_tbl := List.mem_of_getElem? (i := 688) (by decide +kernel)
theorem cd_X5_findFitting : Cond.code yX5_findFitting cX5_findFitting 3 none ∈ lw_tbl := List.mem_of_getElem? (i := 689) (by decide +kernel)
theorem ml_X5_92 : Cond.methodLink RX5 92 yX5_fittingOf ∈ lw_tbl := List.mem_of_getElem? (i := 690) (by decide +kernel)
theorem im_X5_fittingOf : Cond.instanceMethod yX5_fittingOf ∈ lw_tbl := List.mem_of_getElem? (i := 691) (by decide +kernel)
theorem se_X5_fittingOf : Cond.selects RX5 yX5_fittingOf yX5_fittingOf ∈ lw_tbl := List.mem_of_getElem? (i := 692) (by decide +kernel)
theorem cd_X5_fittingOf : Cond.code yX5_fittingOf cX5_fittingOf 5 (some .int) ∈ lw_tbl := List.mem_of_getElem? (i := 693) (by decide +kernel)
theorem mn_X5_96 : Cond.methodLinkNest RX5 96 yX9_isIn RX9 ∈ lw_tbl := List.mem_of_getElem? (i := 694) (by decide +kernel)
theorem ml_X5_107 : Cond.methodLink RX5 107 yX5_hasTold ∈ lw_tbl := List.mem_of_getElem? (i := 695) (by decide +kernel)
theorem im_X5_hasTold : Cond.instanceMethod yX5_hasTold ∈ lw_tbl := List.mem_of_getElem? (i := 696) (by decide +kernel)
theorem se_X5_hasTold : Cond.selects RX5 yX5_hasTold yX5_hasTold ∈ lw_tbl := List.mem_of_getElem? (i := 697) (by decide +kernel)
theorem cd_X5_hasTold : Cond.code yX5_hasTold cX5_hasTold 4 (some .boolean) ∈ lw_tbl := List.mem_of_getElem? (i := 698) (by decide +kernel)
theorem ml_X5_69 : Cond.methodLink RX5 69 yX5_manyTries ∈ lw_tbl := List.mem_of_getElem? (i := 699) (by decide +kernel)
theorem im_X5_manyTries : Cond.instanceMethod yX5_manyTries ∈ lw_tbl := List.mem_of_getElem? (i := 700) (by decide +kernel)
theorem se_X5_manyTries : Cond.selects RX5 yX5_manyTries yX5_manyTries ∈ lw_tbl := List.mem_of_getElem? (i := 701) (by decide +kernel)
theorem cd_X5_manyTries : Cond.code yX5_manyTries cX5_manyTries 3 (some .int) ∈ lw_tbl := List.mem_of_getElem? (i := 702) (by decide +kernel)
theorem ml_X5_73 : Cond.methodLink RX5 73 yX5_stood ∈ lw_tbl := List.mem_of_getElem? (i := 703) (by decide +kernel)
theorem im_X5_stood : Cond.instanceMethod yX5_stood ∈ lw_tbl := List.mem_of_getElem? (i := 704) (by decide +kernel)
theorem se_X5_stood : Cond.selects RX5 yX5_stood yX5_stood ∈ lw_tbl := List.mem_of_getElem? (i := 705) (by decide +kernel)
theorem cd_X5_stood : Cond.code yX5_stood cX5_stood 4 (some .boolean) ∈ lw_tbl := List.mem_of_getElem? (i := 706) (by decide +kernel)
theorem ml_X5_119 : Cond.methodLink RX5 119 yX5_isJoined ∈ lw_tbl := List.mem_of_getElem? (i := 707) (by decide +kernel)
theorem im_X5_isJoined : Cond.instanceMethod yX5_isJoined ∈ lw_tbl := List.mem_of_getElem? (i := 708) (by decide +kernel)
theorem se_X5_isJoined : Cond.selects RX5 yX5_isJoined yX5_isJoined ∈ lw_tbl := List.mem_of_getElem? (i := 709) (by decide +kernel)
theorem cd_X5_isJoined : Cond.code yX5_isJoined cX5_isJoined 4 (some .boolean) ∈ lw_tbl := List.mem_of_getElem? (i := 710) (by decide +kernel)
theorem ml_L_150 : Cond.methodLink RL 150 yX9_often ∈ lw_tbl := List.mem_of_getElem? (i := 711) (by decide +kernel)
theorem im_X9_often : Cond.instanceMethod yX9_often ∈ lw_tbl := List.mem_of_getElem? (i := 712) (by decide +kernel)
theorem se_X9_often : Cond.selects RX9 yX9_often yX9_often ∈ lw_tbl := List.mem_of_getElem? (i := 713) (by decide +kernel)
theorem cd_X9_often : Cond.code yX9_often cX9_often 1 (some .int) ∈ lw_tbl := List.mem_of_getElem? (i := 714) (by decide +kernel)
theorem ml_X9_254 : Cond.methodLink RX9 254 yX9_timesStanding ∈ lw_tbl := List.mem_of_getElem? (i := 715) (by decide +kernel)
theorem im_X9_timesStanding : Cond.instanceMethod yX9_timesStanding ∈ lw_tbl := List.mem_of_getElem? (i := 717) (by decide +kernel)
theorem cd_X9_timesStanding : Cond.code yX9_timesStanding cX9_timesStanding 3 (some .int) ∈ lw_tbl := List.mem_of_getElem? (i := 718) (by decide +kernel)
theorem ml_X9_259 : Cond.methodLink RX9 259 yX5_findStanding ∈ lw_tbl := List.mem_of_getElem? (i := 719) (by decide +kernel)
theorem im_X5_findStanding : Cond.instanceMethod yX5_findStanding ∈ lw_tbl := List.mem_of_getElem? (i := 720) (by decide +kernel)
theorem se_X5_findStanding : Cond.selects RX5 yX5_findStanding yX5_findStanding ∈ lw_tbl := List.mem_of_getElem? (i := 721) (by decide +kernel)
theorem cd_X5_findStanding : Cond.code yX5_findStanding cX5_findStanding 4 none ∈ lw_tbl := List.mem_of_getElem? (i := 722) (by decide +kernel)
theorem mn_X5_82 : Cond.methodLinkNest RX5 82 yX9_unmark RX9 ∈ lw_tbl := List.mem_of_getElem? (i := 723) (by decide +kernel)
theorem ml_X5_86 : Cond.methodLink RX5 86 yX5_triedRows ∈ lw_tbl := List.mem_of_getElem? (i := 724) (by decide +kernel)
theorem im_X5_triedRows : Cond.instanceMethod yX5_triedRows ∈ lw_tbl := List.mem_of_getElem? (i := 725) (by decide +kernel)
theorem se_X5_triedRows : Cond.selects RX5 yX5_triedRows yX5_triedRows ∈ lw_tbl := List.mem_of_getElem? (i := 726) (by decide +kernel)
theorem cd_X5_triedRows : Cond.code yX5_triedRows cX5_triedRows 3 (some .int) ∈ lw_tbl := List.mem_of_getElem? (i := 727) (by decide +kernel)
theorem mn_X5_89 : Cond.methodLinkNest RX5 89 yX9_markWholes RX9 ∈ lw_tbl := List.mem_of_getElem? (i := 728) (by decide +kernel)
theorem ml_L_154 : Cond.methodLink RL 154 yX9_sure ∈ lw_tbl := List.mem_of_getElem? (i := 729) (by decide +kernel)
theorem im_X9_sure : Cond.instanceMethod yX9_sure ∈ lw_tbl := List.mem_of_getElem? (i := 730) (by decide +kernel)
theorem se_X9_sure : Cond.selects RX9 yX9_sure yX9_sure ∈ lw_tbl := List.mem_of_getElem? (i := 731) (by decide +kernel)
theorem cd_X9_sure : Cond.code yX9_sure cX9_sure 2 (some .int) ∈ lw_tbl := List.mem_of_getElem? (i := 732) (by decide +kernel)
theorem ml_L_158 : Cond.methodLink RL 158 yX9_against ∈ lw_tbl := List.mem_of_getElem? (i := 733) (by decide +kernel)
theorem im_X9_against : Cond.instanceMethod yX9_against ∈ lw_tbl := List.mem_of_getElem? (i := 734) (by decide +kernel)
theorem se_X9_against : Cond.selects RX9 yX9_against yX9_against ∈ lw_tbl := List.mem_of_getElem? (i := 735) (by decide +kernel)
theorem cd_X9_against : Cond.code yX9_against cX9_against 2 (some .int) ∈ lw_tbl := List.mem_of_getElem? (i := 736) (by decide +kernel)
theorem ml_L_162 : Cond.methodLink RL 162 yX9_count ∈ lw_tbl := List.mem_of_getElem? (i := 737) (by decide +kernel)
theorem im_X9_count : Cond.instanceMethod yX9_count ∈ lw_tbl := List.mem_of_getElem? (i := 738) (by decide +kernel)
theorem se_X9_count : Cond.selects RX9 yX9_count yX9_count ∈ lw_tbl := List.mem_of_getElem? (i := 739) (by decide +kernel)
theorem cd_X9_count : Cond.code yX9_count cX9_count 2 (some .int) ∈ lw_tbl := List.mem_of_getElem? (i := 740) (by decide +kernel)
theorem ml_X9_268 : Cond.methodLink RX9 268 yX9_manyTables ∈ lw_tbl := List.mem_of_getElem? (i := 741) (by decide +kernel)
theorem im_X9_manyTables : Cond.instanceMethod yX9_manyTables ∈ lw_tbl := List.mem_of_getElem? (i := 743) (by decide +kernel)
theorem cd_X9_manyTables : Cond.code yX9_manyTables cX9_manyTables 3 (some .int) ∈ lw_tbl := List.mem_of_getElem? (i := 744) (by decide +kernel)
theorem cl_L_10 : Cond.classLink RL 10 RX10 ∈ lw_tbl := List.mem_of_getElem? (i := 745) (by decide +kernel)
theorem in_X10 : Cond.instantiable RX10 36 ∈ lw_tbl := List.mem_of_getElem? (i := 746) (by decide +kernel)
theorem ml_L_12 : Cond.methodLink RL 12 yX10_init ∈ lw_tbl := List.mem_of_getElem? (i := 747) (by decide +kernel)
theorem im_X10_init : Cond.instanceMethod yX10_init ∈ lw_tbl := List.mem_of_getElem? (i := 748) (by decide +kernel)
theorem cd_X10_init : Cond.code yX10_init cX10_init 1 none ∈ lw_tbl := List.mem_of_getElem? (i := 749) (by decide +kernel)
theorem ml_X10_1 : Cond.methodLink RX10 1 Lib.objectInit ∈ lw_tbl := List.mem_of_getElem? (i := 750) (by decide +kernel)
theorem fl_X10_93 : Cond.fieldLink RX10 93 "CleaningBenchModel" "thrown" "I" ∈ lw_tbl := List.mem_of_getElem? (i := 751) (by decide +kernel)
theorem fl_X10_7 : Cond.fieldLink RX10 7 "CleaningBenchModel" "columns" "[I" ∈ lw_tbl := List.mem_of_getElem? (i := 752) (by decide +kernel)
theorem fl_X10_13 : Cond.fieldLink RX10 13 "CleaningBenchModel" "laneOf" "[I" ∈ lw_tbl := List.mem_of_getElem? (i := 753) (by decide +kernel)
theorem fl_X10_106 : Cond.fieldLink RX10 106 "CleaningBenchModel" "rows" "I" ∈ lw_tbl := List.mem_of_getElem? (i := 754) (by decide +kernel)
theorem fl_X10_16 : Cond.fieldLink RX10 16 "CleaningBenchModel" "tableOf" "[I" ∈ lw_tbl := List.mem_of_getElem? (i := 755) (by decide +kernel)
theorem fl_X10_19 : Cond.fieldLink RX10 19 "CleaningBenchModel" "trustOf" "[I" ∈ lw_tbl := List.mem_of_getElem? (i := 756) (by decide +kernel)
theorem fl_X10_22 : Cond.fieldLink RX10 22 "CleaningBenchModel" "isKept" "[Z" ∈ lw_tbl := List.mem_of_getElem? (i := 757) (by decide +kernel)
theorem fl_X10_26 : Cond.fieldLink RX10 26 "CleaningBenchModel" "isThere" "[Z" ∈ lw_tbl := List.mem_of_getElem? (i := 758) (by decide +kernel)
theorem fl_X10_29 : Cond.fieldLink RX10 29 "CleaningBenchModel" "told" "[J" ∈ lw_tbl := List.mem_of_getElem? (i := 759) (by decide +kernel)
theorem fl_X10_109 : Cond.fieldLink RX10 109 "CleaningBenchModel" "laws" "I" ∈ lw_tbl := List.mem_of_getElem? (i := 760) (by decide +kernel)
theorem fl_X10_33 : Cond.fieldLink RX10 33 "CleaningBenchModel" "kind" "[I" ∈ lw_tbl := List.mem_of_getElem? (i := 761) (by decide +kernel)
theorem fl_X10_36 : Cond.fieldLink RX10 36 "CleaningBenchModel" "lawTable" "[I" ∈ lw_tbl := List.mem_of_getElem? (i := 762) (by decide +kernel)
theorem fl_X10_39 : Cond.fieldLink RX10 39 "CleaningBenchModel" "colA" "[I" ∈ lw_tbl := List.mem_of_getElem? (i := 763) (by decide +kernel)
theorem fl_X10_42 : Cond.fieldLink RX10 42 "CleaningBenchModel" "colB" "[I" ∈ lw_tbl := List.mem_of_getElem? (i := 764) (by decide +kernel)
theorem fl_X10_45 : Cond.fieldLink RX10 45 "CleaningBenchModel" "lawOther" "[I" ∈ lw_tbl := List.mem_of_getElem? (i := 765) (by decide +kernel)
theorem fl_X10_48 : Cond.fieldLink RX10 48 "CleaningBenchModel" "numC" "[J" ∈ lw_tbl := List.mem_of_getElem? (i := 766) (by decide +kernel)
theorem fl_X10_51 : Cond.fieldLink RX10 51 "CleaningBenchModel" "numD" "[J" ∈ lw_tbl := List.mem_of_getElem? (i := 767) (by decide +kernel)
theorem fl_X10_54 : Cond.fieldLink RX10 54 "CleaningBenchModel" "isInForce" "[Z" ∈ lw_tbl := List.mem_of_getElem? (i := 768) (by decide +kernel)
theorem fl_X10_97 : Cond.fieldLink RX10 97 "CleaningBenchModel" "findings" "I" ∈ lw_tbl := List.mem_of_getElem? (i := 769) (by decide +kernel)
theorem fl_X10_209 : Cond.fieldLink RX10 209 "CleaningBenchModel" "parts" "I" ∈ lw_tbl := List.mem_of_getElem? (i := 770) (by decide +kernel)
theorem fl_X10_57 : Cond.fieldLink RX10 57 "CleaningBenchModel" "partTable" "[I" ∈ lw_tbl := List.mem_of_getElem? (i := 771) (by decide +kernel)
theorem fl_X10_60 : Cond.fieldLink RX10 60 "CleaningBenchModel" "isTold" "[Z" ∈ lw_tbl := List.mem_of_getElem? (i := 772) (by decide +kernel)
theorem fl_X10_63 : Cond.fieldLink RX10 63 "CleaningBenchModel" "tellOf" "[J" ∈ lw_tbl := List.mem_of_getElem? (i := 773) (by decide +kernel)
theorem fl_X10_212 : Cond.fieldLink RX10 212 "CleaningBenchModel" "joins" "I" ∈ lw_tbl := List.mem_of_getElem? (i := 774) (by decide +kernel)
theorem fl_X10_66 : Cond.fieldLink RX10 66 "CleaningBenchModel" "joinP" "[I" ∈ lw_tbl := List.mem_of_getElem? (i := 775) (by decide +kernel)
theorem fl_X10_69 : Cond.fieldLink RX10 69 "CleaningBenchModel" "joinC" "[I" ∈ lw_tbl := List.mem_of_getElem? (i := 776) (by decide +kernel)
theorem fl_X10_72 : Cond.fieldLink RX10 72 "CleaningBenchModel" "joinQ" "[I" ∈ lw_tbl := List.mem_of_getElem? (i := 777) (by decide +kernel)
theorem fl_X10_75 : Cond.fieldLink RX10 75 "CleaningBenchModel" "joinD" "[I" ∈ lw_tbl := List.mem_of_getElem? (i := 778) (by decide +kernel)
theorem fl_X10_121 : Cond.fieldLink RX10 121 "CleaningBenchModel" "isKnown" "Z" ∈ lw_tbl := List.mem_of_getElem? (i := 779) (by decide +kernel)
theorem fl_X10_193 : Cond.fieldLink RX10 193 "CleaningBenchModel" "many" "I" ∈ lw_tbl := List.mem_of_getElem? (i := 780) (by decide +kernel)
theorem fl_X10_78 : Cond.fieldLink RX10 78 "CleaningBenchModel" "leastOf" "[I" ∈ lw_tbl := List.mem_of_getElem? (i := 781) (by decide +kernel)
theorem fl_X10_81 : Cond.fieldLink RX10 81 "CleaningBenchModel" "mendsBy" "[Z" ∈ lw_tbl := List.mem_of_getElem? (i := 782) (by decide +kernel)
theorem fl_X10_174 : Cond.fieldLink RX10 174 "CleaningBenchModel" "quarrelsFound" "I" ∈ lw_tbl := List.mem_of_getElem? (i := 783) (by decide +kernel)
theorem fl_X10_84 : Cond.fieldLink RX10 84 "CleaningBenchModel" "quarrelOf" "[I" ∈ lw_tbl := List.mem_of_getElem? (i := 784) (by decide +kernel)
theorem fl_X10_87 : Cond.fieldLink RX10 87 "CleaningBenchModel" "become" "[J" ∈ lw_tbl := List.mem_of_getElem? (i := 785) (by decide +kernel)
theorem fl_X10_90 : Cond.fieldLink RX10 90 "CleaningBenchModel" "rowOf" "[I" ∈ lw_tbl := List.mem_of_getElem? (i := 786) (by decide +kernel)
theorem ml_L_17 : Cond.methodLink RL 17 yX10_table ∈ lw_tbl := List.mem_of_getElem? (i := 860) (by decide +kernel)
theorem im_X10_table : Cond.instanceMethod yX10_table ∈ lw_tbl := List.mem_of_getElem? (i := 861) (by decide +kernel)
theorem se_X10_table : Cond.selects RX10 yX10_table yX10_table ∈ lw_tbl := List.mem_of_getElem? (i := 862) (by decide +kernel)
theorem cd_X10_table : Cond.code yX10_table cX10_table 7 (some .int) ∈ lw_tbl := List.mem_of_getElem? (i := 863) (by decide +kernel)
theorem co_X10_100 : Cond.constantLong RX10 100 3 ∈ lw_tbl := List.mem_of_getElem? (i := 864) (by decide +kernel)
theorem ml_X10_102 : Cond.methodLink RX10 102 yX10_in ∈ lw_tbl := List.mem_of_getElem? (i := 865) (by decide +kernel)
theorem st_X10_in : Cond.static yX10_in ∈ lw_tbl := List.mem_of_getElem? (i := 866) (by decide +kernel)
theorem cd_X10_in : Cond.code yX10_in cX10_in 6 (some .boolean) ∈ lw_tbl := List.mem_of_getElem? (i := 867) (by decide +kernel)
theorem ml_X10_112 : Cond.methodLink RX10 112 yX10_finds ∈ lw_tbl := List.mem_of_getElem? (i := 868) (by decide +kernel)
theorem im_X10_finds : Cond.instanceMethod yX10_finds ∈ lw_tbl := List.mem_of_getElem? (i := 870) (by decide +kernel)
theorem cd_X10_finds : Cond.code yX10_finds cX10_finds 2 (some .int) ∈ lw_tbl := List.mem_of_getElem? (i := 871) (by decide +kernel)
theorem ml_L_22 : Cond.methodLink RL 22 yX10_row ∈ lw_tbl := List.mem_of_getElem? (i := 872) (by decide +kernel)
theorem im_X10_row : Cond.instanceMethod yX10_row ∈ lw_tbl := List.mem_of_getElem? (i := 873) (by decide +kernel)
theorem se_X10_row : Cond.selects RX10 yX10_row yX10_row ∈ lw_tbl := List.mem_of_getElem? (i := 874) (by decide +kernel)
theorem cd_X10_row : Cond.code yX10_row cX10_row 3 (some .int) ∈ lw_tbl := List.mem_of_getElem? (i := 875) (by decide +kernel)
theorem ml_X10_116 : Cond.methodLink RX10 116 yX10_lack ∈ lw_tbl := List.mem_of_getElem? (i := 876) (by decide +kernel)
theorem im_X10_lack : Cond.instanceMethod yX10_lack ∈ lw_tbl := List.mem_of_getElem? (i := 878) (by decide +kernel)
theorem cd_X10_lack : Cond.code yX10_lack cX10_lack 2 (some .int) ∈ lw_tbl := List.mem_of_getElem? (i := 879) (by decide +kernel)
theorem co_X10_119 : Cond.constantLong RX10 119 100 ∈ lw_tbl := List.mem_of_getElem? (i := 880) (by decide +kernel)
theorem ml_L_29 : Cond.methodLink RL 29 yX10_put ∈ lw_tbl := List.mem_of_getElem? (i := 881) (by decide +kernel)
theorem im_X10_put : Cond.instanceMethod yX10_put ∈ lw_tbl := List.mem_of_getElem? (i := 882) (by decide +kernel)
theorem se_X10_put : Cond.selects RX10 yX10_put yX10_put ∈ lw_tbl := List.mem_of_getElem? (i := 883) (by decide +kernel)
theorem cd_X10_put : Cond.code yX10_put cX10_put 5 (some .int) ∈ lw_tbl := List.mem_of_getElem? (i := 884) (by decide +kernel)
theorem ml_X10_125 : Cond.methodLink RX10 125 yX10_noRow ∈ lw_tbl := List.mem_of_getElem? (i := 885) (by decide +kernel)
theorem im_X10_noRow : Cond.instanceMethod yX10_noRow ∈ lw_tbl := List.mem_of_getElem? (i := 887) (by decide +kernel)
theorem cd_X10_noRow : Cond.code yX10_noRow cX10_noRow 2 (some .boolean) ∈ lw_tbl := List.mem_of_getElem? (i := 888) (by decide +kernel)
theorem ml_X10_129 : Cond.methodLink RX10 129 yX10_noColumn ∈ lw_tbl := List.mem_of_getElem? (i := 889) (by decide +kernel)
theorem im_X10_noColumn : Cond.instanceMethod yX10_noColumn ∈ lw_tbl := List.mem_of_getElem? (i := 891) (by decide +kernel)
theorem cd_X10_noColumn : Cond.code yX10_noColumn cX10_noColumn 3 (some .boolean) ∈ lw_tbl := List.mem_of_getElem? (i := 892) (by decide +kernel)
theorem ml_X10_133 : Cond.methodLink RX10 133 yX10_lies ∈ lw_tbl := List.mem_of_getElem? (i := 893) (by decide +kernel)
theorem st_X10_lies : Cond.static yX10_lies ∈ lw_tbl := List.mem_of_getElem? (i := 894) (by decide +kernel)
theorem cd_X10_lies : Cond.code yX10_lies cX10_lies 3 (some .long) ∈ lw_tbl := List.mem_of_getElem? (i := 895) (by decide +kernel)
theorem ml_L_33 : Cond.methodLink RL 33 yX10_miss ∈ lw_tbl := List.mem_of_getElem? (i := 896) (by decide +kernel)
theorem im_X10_miss : Cond.instanceMethod yX10_miss ∈ lw_tbl := List.mem_of_getElem? (i := 897) (by decide +kernel)
theorem se_X10_miss : Cond.selects RX10 yX10_miss yX10_miss ∈ lw_tbl := List.mem_of_getElem? (i := 898) (by decide +kernel)
theorem cd_X10_miss : Cond.code yX10_miss cX10_miss 4 (some .int) ∈ lw_tbl := List.mem_of_getElem? (i := 899) (by decide +kernel)
theorem ml_L_37 : Cond.methodLink RL 37 yX10_has ∈ lw_tbl := List.mem_of_getElem? (i := 900) (by decide +kernel)
theorem im_X10_has : Cond.instanceMethod yX10_has ∈ lw_tbl := List.mem_of_getElem? (i := 901) (by decide +kernel)
theorem se_X10_has : Cond.selects RX10 yX10_has yX10_has ∈ lw_tbl := List.mem_of_getElem? (i := 902) (by decide +kernel)
theorem cd_X10_has : Cond.code yX10_has cX10_has 3 (some .int) ∈ lw_tbl := List.mem_of_getElem? (i := 903) (by decide +kernel)
theorem ml_L_42 : Cond.methodLink RL 42 yX10_cell ∈ lw_tbl := List.mem_of_getElem? (i := 904) (by decide +kernel)
theorem im_X10_cell : Cond.instanceMethod yX10_cell ∈ lw_tbl := List.mem_of_getElem? (i := 905) (by decide +kernel)
theorem se_X10_cell : Cond.selects RX10 yX10_cell yX10_cell ∈ lw_tbl := List.mem_of_getElem? (i := 906) (by decide +kernel)
theorem cd_X10_cell : Cond.code yX10_cell cX10_cell 3 (some .long) ∈ lw_tbl := List.mem_of_getElem? (i := 907) (by decide +kernel)
theorem co_X10_137 : Cond.constantLong RX10 137 (-1) ∈ lw_tbl := List.mem_of_getElem? (i := 908) (by decide +kernel)
theorem ml_L_46 : Cond.methodLink RL 46 yX10_column ∈ lw_tbl := List.mem_of_getElem? (i := 909) (by decide +kernel)
theorem im_X10_column : Cond.instanceMethod yX10_column ∈ lw_tbl := List.mem_of_getElem? (i := 910) (by decide +kernel)
theorem se_X10_column : Cond.selects RX10 yX10_column yX10_column ∈ lw_tbl := List.mem_of_getElem? (i := 911) (by decide +kernel)
theorem cd_X10_column : Cond.code yX10_column cX10_column 6 (some .int) ∈ lw_tbl := List.mem_of_getElem? (i := 912) (by decide +kernel)
theorem co_X10_139 : Cond.constantLong RX10 139 5 ∈ lw_tbl := List.mem_of_getElem? (i := 913) (by decide +kernel)
theorem ml_L_50 : Cond.methodLink RL 50 yX10_trust ∈ lw_tbl := List.mem_of_getElem? (i := 914) (by decide +kernel)
theorem im_X10_trust : Cond.instanceMethod yX10_trust ∈ lw_tbl := List.mem_of_getElem? (i := 915) (by decide +kernel)
theorem se_X10_trust : Cond.selects RX10 yX10_trust yX10_trust ∈ lw_tbl := List.mem_of_getElem? (i := 916) (by decide +kernel)
theorem cd_X10_trust : Cond.code yX10_trust cX10_trust 4 (some .int) ∈ lw_tbl := List.mem_of_getElem? (i := 917) (by decide +kernel)
theorem ml_L_55 : Cond.methodLink RL 55 yX10_keep ∈ lw_tbl := List.mem_of_getElem? (i := 918) (by decide +kernel)
theorem im_X10_keep : Cond.instanceMethod yX10_keep ∈ lw_tbl := List.mem_of_getElem? (i := 919) (by decide +kernel)
theorem se_X10_keep : Cond.selects RX10 yX10_keep yX10_keep ∈ lw_tbl := List.mem_of_getElem? (i := 920) (by decide +kernel)
theorem cd_X10_keep : Cond.code yX10_keep cX10_keep 4 (some .int) ∈ lw_tbl := List.mem_of_getElem? (i := 921) (by decide +kernel)
theorem ml_L_59 : Cond.methodLink RL 59 yX10_about ∈ lw_tbl := List.mem_of_getElem? (i := 922) (by decide +kernel)
theorem im_X10_about : Cond.instanceMethod yX10_about ∈ lw_tbl := List.mem_of_getElem? (i := 923) (by decide +kernel)
theorem se_X10_about : Cond.selects RX10 yX10_about yX10_about ∈ lw_tbl := List.mem_of_getElem? (i := 924) (by decide +kernel)
theorem cd_X10_about : Cond.code yX10_about cX10_about 3 (some .int) ∈ lw_tbl := List.mem_of_getElem? (i := 925) (by decide +kernel)
theorem ml_L_64 : Cond.methodLink RL 64 yX10_law ∈ lw_tbl := List.mem_of_getElem? (i := 926) (by decide +kernel)
theorem im_X10_law : Cond.instanceMethod yX10_law ∈ lw_tbl := List.mem_of_getElem? (i := 927) (by decide +kernel)
theorem se_X10_law : Cond.selects RX10 yX10_law yX10_law ∈ lw_tbl := List.mem_of_getElem? (i := 928) (by decide +kernel)
theorem cd_X10_law : Cond.code yX10_law cX10_law 9 (some .int) ∈ lw_tbl := List.mem_of_getElem? (i := 929) (by decide +kernel)
theorem co_X10_141 : Cond.constantLong RX10 141 4 ∈ lw_tbl := List.mem_of_getElem? (i := 930) (by decide +kernel)
theorem ml_X10_143 : Cond.methodLink RX10 143 yX10_add ∈ lw_tbl := List.mem_of_getElem? (i := 931) (by decide +kernel)
theorem im_X10_add : Cond.instanceMethod yX10_add ∈ lw_tbl := List.mem_of_getElem? (i := 933) (by decide +kernel)
theorem cd_X10_add : Cond.code yX10_add cX10_add 10 (some .int) ∈ lw_tbl := List.mem_of_getElem? (i := 934) (by decide +kernel)
theorem ml_L_69 : Cond.methodLink RL 69 yX10_among ∈ lw_tbl := List.mem_of_getElem? (i := 935) (by decide +kernel)
theorem im_X10_among : Cond.instanceMethod yX10_among ∈ lw_tbl := List.mem_of_getElem? (i := 936) (by decide +kernel)
theorem se_X10_among : Cond.selects RX10 yX10_among yX10_among ∈ lw_tbl := List.mem_of_getElem? (i := 937) (by decide +kernel)
theorem cd_X10_among : Cond.code yX10_among cX10_among 5 (some .int) ∈ lw_tbl := List.mem_of_getElem? (i := 938) (by decide +kernel)
theorem ml_L_73 : Cond.methodLink RL 73 yX10_force ∈ lw_tbl := List.mem_of_getElem? (i := 939) (by decide +kernel)
theorem im_X10_force : Cond.instanceMethod yX10_force ∈ lw_tbl := List.mem_of_getElem? (i := 940) (by decide +kernel)
theorem se_X10_force : Cond.selects RX10 yX10_force yX10_force ∈ lw_tbl := List.mem_of_getElem? (i := 941) (by decide +kernel)
theorem cd_X10_force : Cond.code yX10_force cX10_force 4 (some .int) ∈ lw_tbl := List.mem_of_getElem? (i := 942) (by decide +kernel)
theorem ml_X10_147 : Cond.methodLink RX10 147 yX10_noLaw ∈ lw_tbl := List.mem_of_getElem? (i := 943) (by decide +kernel)
theorem im_X10_noLaw : Cond.instanceMethod yX10_noLaw ∈ lw_tbl := List.mem_of_getElem? (i := 945) (by decide +kernel)
theorem cd_X10_noLaw : Cond.code yX10_noLaw cX10_noLaw 2 (some .boolean) ∈ lw_tbl := List.mem_of_getElem? (i := 946) (by decide +kernel)
theorem ml_L_78 : Cond.methodLink RL 78 yX10_most ∈ lw_tbl := List.mem_of_getElem? (i := 947) (by decide +kernel)
theorem im_X10_most : Cond.instanceMethod yX10_most ∈ lw_tbl := List.mem_of_getElem? (i := 948) (by decide +kernel)
theorem se_X10_most : Cond.selects RX10 yX10_most yX10_most ∈ lw_tbl := List.mem_of_getElem? (i := 949) (by decide +kernel)
theorem cd_X10_most : Cond.code yX10_most cX10_most 2 (some .long) ∈ lw_tbl := List.mem_of_getElem? (i := 950) (by decide +kernel)
theorem ml_L_83 : Cond.methodLink RL 83 yX10_quarrels ∈ lw_tbl := List.mem_of_getElem? (i := 951) (by decide +kernel)
theorem im_X10_quarrels : Cond.instanceMethod yX10_quarrels ∈ lw_tbl := List.mem_of_getElem? (i := 952) (by decide +kernel)
theorem se_X10_quarrels : Cond.selects RX10 yX10_quarrels yX10_quarrels ∈ lw_tbl := List.mem_of_getElem? (i := 953) (by decide +kernel)
theorem cd_X10_quarrels : Cond.code yX10_quarrels cX10_quarrels 2 (some .int) ∈ lw_tbl := List.mem_of_getElem? (i := 954) (by decide +kernel)
theorem ml_X10_186 : Cond.methodLink RX10 186 yX10_findQuarrels ∈ lw_tbl := List.mem_of_getElem? (i := 955) (by decide +kernel)
theorem im_X10_findQuarrels : Cond.instanceMethod yX10_findQuarrels ∈ lw_tbl := List.mem_of_getElem? (i := 957) (by decide +kernel)
theorem cd_X10_findQuarrels : Cond.code yX10_findQuarrels cX10_findQuarrels 7 none ∈ lw_tbl := List.mem_of_getElem? (i := 958) (by decide +kernel)
theorem ml_X10_170 : Cond.methodLink RX10 170 yX10_keptSet ∈ lw_tbl := List.mem_of_getElem? (i := 959) (by decide +kernel)
theorem im_X10_keptSet : Cond.instanceMethod yX10_keptSet ∈ lw_tbl := List.mem_of_getElem? (i := 961) (by decide +kernel)
theorem cd_X10_keptSet : Cond.code yX10_keptSet cX10_keptSet 3 (some .int) ∈ lw_tbl := List.mem_of_getElem? (i := 962) (by decide +kernel)
theorem ml_X10_177 : Cond.methodLink RX10 177 yX10_bitsOf ∈ lw_tbl := List.mem_of_getElem? (i := 963) (by decide +kernel)
theorem st_X10_bitsOf : Cond.static yX10_bitsOf ∈ lw_tbl := List.mem_of_getElem? (i := 964) (by decide +kernel)
theorem cd_X10_bitsOf : Cond.code yX10_bitsOf cX10_bitsOf 3 (some .int) ∈ lw_tbl := List.mem_of_getElem? (i := 965) (by decide +kernel)
theorem ml_X10_180 : Cond.methodLink RX10 180 yX10_isLeastSum ∈ lw_tbl := List.mem_of_getElem? (i := 966) (by decide +kernel)
theorem im_X10_isLeastSum : Cond.instanceMethod yX10_isLeastSum ∈ lw_tbl := List.mem_of_getElem? (i := 968) (by decide +kernel)
theorem cd_X10_isLeastSum : Cond.code yX10_isLeastSum cX10_isLeastSum 5 (some .boolean) ∈ lw_tbl := List.mem_of_getElem? (i := 969) (by decide +kernel)
theorem ml_X10_154 : Cond.methodLink RX10 154 yX10_isOf ∈ lw_tbl := List.mem_of_getElem? (i := 970) (by decide +kernel)
theorem im_X10_isOf : Cond.instanceMethod yX10_isOf ∈ lw_tbl := List.mem_of_getElem? (i := 972) (by decide +kernel)
theorem cd_X10_isOf : Cond.code yX10_isOf cX10_isOf 4 (some .boolean) ∈ lw_tbl := List.mem_of_getElem? (i := 973) (by decide +kernel)
theorem ml_X10_158 : Cond.methodLink RX10 158 yX10_counts ∈ lw_tbl := List.mem_of_getElem? (i := 974) (by decide +kernel)
theorem im_X10_counts : Cond.instanceMethod yX10_counts ∈ lw_tbl := List.mem_of_getElem? (i := 976) (by decide +kernel)
theorem cd_X10_counts : Cond.code yX10_counts cX10_counts 3 (some .boolean) ∈ lw_tbl := List.mem_of_getElem? (i := 977) (by decide +kernel)
theorem ml_X10_150 : Cond.methodLink RX10 150 yX10_isLike ∈ lw_tbl := List.mem_of_getElem? (i := 978) (by decide +kernel)
theorem im_X10_isLike : Cond.instanceMethod yX10_isLike ∈ lw_tbl := List.mem_of_getElem? (i := 980) (by decide +kernel)
theorem cd_X10_isLike : Cond.code yX10_isLike cX10_isLike 5 (some .boolean) ∈ lw_tbl := List.mem_of_getElem? (i := 981) (by decide +kernel)
theorem ml_X10_161 : Cond.methodLink RX10 161 yX10_isMore ∈ lw_tbl := List.mem_of_getElem? (i := 982) (by decide +kernel)
theorem im_X10_isMore : Cond.instanceMethod yX10_isMore ∈ lw_tbl := List.mem_of_getElem? (i := 984) (by decide +kernel)
theorem cd_X10_isMore : Cond.code yX10_isMore cX10_isMore 8 (some .boolean) ∈ lw_tbl := List.mem_of_getElem? (i := 985) (by decide +kernel)
theorem ml_X10_183 : Cond.methodLink RX10 183 yX10_breaksLaw ∈ lw_tbl := List.mem_of_getElem? (i := 986) (by decide +kernel)
theorem im_X10_breaksLaw : Cond.instanceMethod yX10_breaksLaw ∈ lw_tbl := List.mem_of_getElem? (i := 988) (by decide +kernel)
theorem cd_X10_breaksLaw : Cond.code yX10_breaksLaw cX10_breaksLaw 5 (some .boolean) ∈ lw_tbl := List.mem_of_getElem? (i := 989) (by decide +kernel)
theorem ml_X10_164 : Cond.methodLink RX10 164 yX10_breakOne ∈ lw_tbl := List.mem_of_getElem? (i := 990) (by decide +kernel)
theorem im_X10_breakOne : Cond.instanceMethod yX10_breakOne ∈ lw_tbl := List.mem_of_getElem? (i := 992) (by decide +kernel)
theorem cd_X10_breakOne : Cond.code yX10_breakOne cX10_breakOne 7 (some .boolean) ∈ lw_tbl := List.mem_of_getElem? (i := 993) (by decide +kernel)
theorem ml_X10_167 : Cond.methodLink RX10 167 yX10_breakTwo ∈ lw_tbl := List.mem_of_getElem? (i := 994) (by decide +kernel)
theorem im_X10_breakTwo : Cond.instanceMethod yX10_breakTwo ∈ lw_tbl := List.mem_of_getElem? (i := 996) (by decide +kernel)
theorem cd_X10_breakTwo : Cond.code yX10_breakTwo cX10_breakTwo 12 (some .boolean) ∈ lw_tbl := List.mem_of_getElem? (i := 997) (by decide +kernel)
theorem ml_L_87 : Cond.methodLink RL 87 yX10_quarrel ∈ lw_tbl := List.mem_of_getElem? (i := 998) (by decide +kernel)
theorem im_X10_quarrel : Cond.instanceMethod yX10_quarrel ∈ lw_tbl := List.mem_of_getElem? (i := 999) (by decide +kernel)
theorem se_X10_quarrel : Cond.selects RX10 yX10_quarrel yX10_quarrel ∈ lw_tbl := List.mem_of_getElem? (i := 1000) (by decide +kernel)
theorem cd_X10_quarrel : Cond.code yX10_quarrel cX10_quarrel 3 (some .int) ∈ lw_tbl := List.mem_of_getElem? (i := 1001) (by decide +kernel)
theorem ml_L_92 : Cond.methodLink RL 92 yX10_clean ∈ lw_tbl := List.mem_of_getElem? (i := 1002) (by decide +kernel)
theorem im_X10_clean : Cond.instanceMethod yX10_clean ∈ lw_tbl := List.mem_of_getElem? (i := 1003) (by decide +kernel)
theorem se_X10_clean : Cond.selects RX10 yX10_clean yX10_clean ∈ lw_tbl := List.mem_of_getElem? (i := 1004) (by decide +kernel)
theorem cd_X10_clean : Cond.code yX10_clean cX10_clean 1 (some .int) ∈ lw_tbl := List.mem_of_getElem? (i := 1005) (by decide +kernel)
theorem ml_X10_190 : Cond.methodLink RX10 190 yX10_firstBroken ∈ lw_tbl := List.mem_of_getElem? (i := 1006) (by decide +kernel)
theorem im_X10_firstBroken : Cond.instanceMethod yX10_firstBroken ∈ lw_tbl := List.mem_of_getElem? (i := 1008) (by decide +kernel)
theorem cd_X10_firstBroken : Cond.code yX10_firstBroken cX10_firstBroken 3 (some .int) ∈ lw_tbl := List.mem_of_getElem? (i := 1009) (by decide +kernel)
theorem ml_L_96 : Cond.methodLink RL 96 yX10_breaks ∈ lw_tbl := List.mem_of_getElem? (i := 1010) (by decide +kernel)
theorem im_X10_breaks : Cond.instanceMethod yX10_breaks ∈ lw_tbl := List.mem_of_getElem? (i := 1011) (by decide +kernel)
theorem se_X10_breaks : Cond.selects RX10 yX10_breaks yX10_breaks ∈ lw_tbl := List.mem_of_getElem? (i := 1012) (by decide +kernel)
theorem cd_X10_breaks : Cond.code yX10_breaks cX10_breaks 2 (some .int) ∈ lw_tbl := List.mem_of_getElem? (i := 1013) (by decide +kernel)
theorem ml_L_100 : Cond.methodLink RL 100 yX10_mends ∈ lw_tbl := List.mem_of_getElem? (i := 1014) (by decide +kernel)
theorem im_X10_mends : Cond.instanceMethod yX10_mends ∈ lw_tbl := List.mem_of_getElem? (i := 1015) (by decide +kernel)
theorem se_X10_mends : Cond.selects RX10 yX10_mends yX10_mends ∈ lw_tbl := List.mem_of_getElem? (i := 1016) (by decide +kernel)
theorem cd_X10_mends : Cond.code yX10_mends cX10_mends 1 (some .int) ∈ lw_tbl := List.mem_of_getElem? (i := 1017) (by decide +kernel)
theorem ml_X10_196 : Cond.methodLink RX10 196 yX10_know ∈ lw_tbl := List.mem_of_getElem? (i := 1018) (by decide +kernel)
theorem im_X10_know : Cond.instanceMethod yX10_know ∈ lw_tbl := List.mem_of_getElem? (i := 1020) (by decide +kernel)
theorem cd_X10_know : Cond.code yX10_know cX10_know 5 none ∈ lw_tbl := List.mem_of_getElem? (i := 1021) (by decide +kernel)
theorem ml_L_104 : Cond.methodLink RL 104 yX10_mending ∈ lw_tbl := List.mem_of_getElem? (i := 1022) (by decide +kernel)
theorem im_X10_mending : Cond.instanceMethod yX10_mending ∈ lw_tbl := List.mem_of_getElem? (i := 1023) (by decide +kernel)
theorem se_X10_mending : Cond.selects RX10 yX10_mending yX10_mending ∈ lw_tbl := List.mem_of_getElem? (i := 1024) (by decide +kernel)
theorem cd_X10_mending : Cond.code yX10_mending cX10_mending 2 (some .int) ∈ lw_tbl := List.mem_of_getElem? (i := 1025) (by decide +kernel)
theorem ml_L_108 : Cond.methodLink RL 108 yX10_price ∈ lw_tbl := List.mem_of_getElem? (i := 1026) (by decide +kernel)
theorem im_X10_price : Cond.instanceMethod yX10_price ∈ lw_tbl := List.mem_of_getElem? (i := 1027) (by decide +kernel)
theorem se_X10_price : Cond.selects RX10 yX10_price yX10_price ∈ lw_tbl := List.mem_of_getElem? (i := 1028) (by decide +kernel)
theorem cd_X10_price : Cond.code yX10_price cX10_price 1 (some .int) ∈ lw_tbl := List.mem_of_getElem? (i := 1029) (by decide +kernel)
theorem ml_X10_202 : Cond.methodLink RX10 202 yX10_bestOf ∈ lw_tbl := List.mem_of_getElem? (i := 1030) (by decide +kernel)
theorem im_X10_bestOf : Cond.instanceMethod yX10_bestOf ∈ lw_tbl := List.mem_of_getElem? (i := 1032) (by decide +kernel)
theorem cd_X10_bestOf : Cond.code yX10_bestOf cX10_bestOf 3 (some .int) ∈ lw_tbl := List.mem_of_getElem? (i := 1033) (by decide +kernel)
theorem ml_X10_199 : Cond.methodLink RX10 199 yX10_priceOf ∈ lw_tbl := List.mem_of_getElem? (i := 1034) (by decide +kernel)
theorem im_X10_priceOf : Cond.instanceMethod yX10_priceOf ∈ lw_tbl := List.mem_of_getElem? (i := 1036) (by decide +kernel)
theorem cd_X10_priceOf : Cond.code yX10_priceOf cX10_priceOf 4 (some .int) ∈ lw_tbl := List.mem_of_getElem? (i := 1037) (by decide +kernel)
theorem ml_L_112 : Cond.methodLink RL 112 yX10_best ∈ lw_tbl := List.mem_of_getElem? (i := 1038) (by decide +kernel)
theorem im_X10_best : Cond.instanceMethod yX10_best ∈ lw_tbl := List.mem_of_getElem? (i := 1039) (by decide +kernel)
theorem se_X10_best : Cond.selects RX10 yX10_best yX10_best ∈ lw_tbl := List.mem_of_getElem? (i := 1040) (by decide +kernel)
theorem cd_X10_best : Cond.code yX10_best cX10_best 1 (some .int) ∈ lw_tbl := List.mem_of_getElem? (i := 1041) (by decide +kernel)
theorem ml_L_116 : Cond.methodLink RL 116 yX10_blame ∈ lw_tbl := List.mem_of_getElem? (i := 1042) (by decide +kernel)
theorem im_X10_blame : Cond.instanceMethod yX10_blame ∈ lw_tbl := List.mem_of_getElem? (i := 1043) (by decide +kernel)
theorem se_X10_blame : Cond.selects RX10 yX10_blame yX10_blame ∈ lw_tbl := List.mem_of_getElem? (i := 1044) (by decide +kernel)
theorem cd_X10_blame : Cond.code yX10_blame cX10_blame 4 (some .int) ∈ lw_tbl := List.mem_of_getElem? (i := 1045) (by decide +kernel)
theorem ml_L_121 : Cond.methodLink RL 121 yX10_sum ∈ lw_tbl := List.mem_of_getElem? (i := 1046) (by decide +kernel)
theorem im_X10_sum : Cond.instanceMethod yX10_sum ∈ lw_tbl := List.mem_of_getElem? (i := 1047) (by decide +kernel)
theorem se_X10_sum : Cond.selects RX10 yX10_sum yX10_sum ∈ lw_tbl := List.mem_of_getElem? (i := 1048) (by decide +kernel)
theorem cd_X10_sum : Cond.code yX10_sum cX10_sum 12 (some .long) ∈ lw_tbl := List.mem_of_getElem? (i := 1049) (by decide +kernel)
theorem ml_L_125 : Cond.methodLink RL 125 yX10_mend ∈ lw_tbl := List.mem_of_getElem? (i := 1050) (by decide +kernel)
theorem im_X10_mend : Cond.instanceMethod yX10_mend ∈ lw_tbl := List.mem_of_getElem? (i := 1051) (by decide +kernel)
theorem se_X10_mend : Cond.selects RX10 yX10_mend yX10_mend ∈ lw_tbl := List.mem_of_getElem? (i := 1052) (by decide +kernel)
theorem cd_X10_mend : Cond.code yX10_mend cX10_mend 3 (some .int) ∈ lw_tbl := List.mem_of_getElem? (i := 1053) (by decide +kernel)
theorem ml_L_129 : Cond.methodLink RL 129 yX10_settle ∈ lw_tbl := List.mem_of_getElem? (i := 1054) (by decide +kernel)
theorem im_X10_settle : Cond.instanceMethod yX10_settle ∈ lw_tbl := List.mem_of_getElem? (i := 1055) (by decide +kernel)
theorem se_X10_settle : Cond.selects RX10 yX10_settle yX10_settle ∈ lw_tbl := List.mem_of_getElem? (i := 1056) (by decide +kernel)
theorem cd_X10_settle : Cond.code yX10_settle cX10_settle 7 (some .int) ∈ lw_tbl := List.mem_of_getElem? (i := 1057) (by decide +kernel)
theorem ml_X10_205 : Cond.methodLink RX10 205 yX10_settled ∈ lw_tbl := List.mem_of_getElem? (i := 1058) (by decide +kernel)
theorem im_X10_settled : Cond.instanceMethod yX10_settled ∈ lw_tbl := List.mem_of_getElem? (i := 1060) (by decide +kernel)
theorem cd_X10_settled : Cond.code yX10_settled cX10_settled 13 (some .long) ∈ lw_tbl := List.mem_of_getElem? (i := 1061) (by decide +kernel)
theorem ml_L_133 : Cond.methodLink RL 133 yX10_ask ∈ lw_tbl := List.mem_of_getElem? (i := 1062) (by decide +kernel)
theorem im_X10_ask : Cond.instanceMethod yX10_ask ∈ lw_tbl := List.mem_of_getElem? (i := 1063) (by decide +kernel)
theorem se_X10_ask : Cond.selects RX10 yX10_ask yX10_ask ∈ lw_tbl := List.mem_of_getElem? (i := 1064) (by decide +kernel)
theorem cd_X10_ask : Cond.code yX10_ask cX10_ask 2 (some .int) ∈ lw_tbl := List.mem_of_getElem? (i := 1065) (by decide +kernel)
theorem ml_L_137 : Cond.methodLink RL 137 yX10_part ∈ lw_tbl := List.mem_of_getElem? (i := 1066) (by decide +kernel)
theorem im_X10_part : Cond.instanceMethod yX10_part ∈ lw_tbl := List.mem_of_getElem? (i := 1067) (by decide +kernel)
theorem se_X10_part : Cond.selects RX10 yX10_part yX10_part ∈ lw_tbl := List.mem_of_getElem? (i := 1068) (by decide +kernel)
theorem cd_X10_part : Cond.code yX10_part cX10_part 3 (some .int) ∈ lw_tbl := List.mem_of_getElem? (i := 1069) (by decide +kernel)
theorem ml_L_141 : Cond.methodLink RL 141 yX10_tell ∈ lw_tbl := List.mem_of_getElem? (i := 1070) (by decide +kernel)
theorem im_X10_tell : Cond.instanceMethod yX10_tell ∈ lw_tbl := List.mem_of_getElem? (i := 1071) (by decide +kernel)
theorem se_X10_tell : Cond.selects RX10 yX10_tell yX10_tell ∈ lw_tbl := List.mem_of_getElem? (i := 1072) (by decide +kernel)
theorem cd_X10_tell : Cond.code yX10_tell cX10_tell 5 (some .int) ∈ lw_tbl := List.mem_of_getElem? (i := 1073) (by decide +kernel)
theorem ml_X10_215 : Cond.methodLink RX10 215 yX10_noPart ∈ lw_tbl := List.mem_of_getElem? (i := 1074) (by decide +kernel)
theorem im_X10_noPart : Cond.instanceMethod yX10_noPart ∈ lw_tbl := List.mem_of_getElem? (i := 1076) (by decide +kernel)
theorem cd_X10_noPart : Cond.code yX10_noPart cX10_noPart 2 (some .boolean) ∈ lw_tbl := List.mem_of_getElem? (i := 1077) (by decide +kernel)
theorem ml_L_145 : Cond.methodLink RL 145 yX10_join ∈ lw_tbl := List.mem_of_getElem? (i := 1078) (by decide +kernel)
theorem im_X10_join : Cond.instanceMethod yX10_join ∈ lw_tbl := List.mem_of_getElem? (i := 1079) (by decide +kernel)
theorem se_X10_join : Cond.selects RX10 yX10_join yX10_join ∈ lw_tbl := List.mem_of_getElem? (i := 1080) (by decide +kernel)
theorem cd_X10_join : Cond.code yX10_join cX10_join 5 (some .int) ∈ lw_tbl := List.mem_of_getElem? (i := 1081) (by decide +kernel)
theorem ml_L_149 : Cond.methodLink RL 149 yX10_stands ∈ lw_tbl := List.mem_of_getElem? (i := 1082) (by decide +kernel)
theorem im_X10_stands : Cond.instanceMethod yX10_stands ∈ lw_tbl := List.mem_of_getElem? (i := 1083) (by decide +kernel)
theorem se_X10_stands : Cond.selects RX10 yX10_stands yX10_stands ∈ lw_tbl := List.mem_of_getElem? (i := 1084) (by decide +kernel)
theorem cd_X10_stands : Cond.code yX10_stands cX10_stands 1 (some .int) ∈ lw_tbl := List.mem_of_getElem? (i := 1085) (by decide +kernel)
theorem ml_X10_221 : Cond.methodLink RX10 221 yX10_standsIn ∈ lw_tbl := List.mem_of_getElem? (i := 1086) (by decide +kernel)
theorem im_X10_standsIn : Cond.instanceMethod yX10_standsIn ∈ lw_tbl := List.mem_of_getElem? (i := 1088) (by decide +kernel)
theorem cd_X10_standsIn : Cond.code yX10_standsIn cX10_standsIn 7 (some .boolean) ∈ lw_tbl := List.mem_of_getElem? (i := 1089) (by decide +kernel)
theorem ml_X10_218 : Cond.methodLink RX10 218 yX10_fitsPart ∈ lw_tbl := List.mem_of_getElem? (i := 1090) (by decide +kernel)
theorem im_X10_fitsPart : Cond.instanceMethod yX10_fitsPart ∈ lw_tbl := List.mem_of_getElem? (i := 1092) (by decide +kernel)
theorem cd_X10_fitsPart : Cond.code yX10_fitsPart cX10_fitsPart 5 (some .boolean) ∈ lw_tbl := List.mem_of_getElem? (i := 1093) (by decide +kernel)
theorem ml_L_153 : Cond.methodLink RL 153 yX10_often ∈ lw_tbl := List.mem_of_getElem? (i := 1094) (by decide +kernel)
theorem im_X10_often : Cond.instanceMethod yX10_often ∈ lw_tbl := List.mem_of_getElem? (i := 1095) (by decide +kernel)
theorem se_X10_often : Cond.selects RX10 yX10_often yX10_often ∈ lw_tbl := List.mem_of_getElem? (i := 1096) (by decide +kernel)
theorem cd_X10_often : Cond.code yX10_often cX10_often 1 (some .int) ∈ lw_tbl := List.mem_of_getElem? (i := 1097) (by decide +kernel)
theorem ml_X10_224 : Cond.methodLink RX10 224 yX10_oftenOf ∈ lw_tbl := List.mem_of_getElem? (i := 1098) (by decide +kernel)
theorem im_X10_oftenOf : Cond.instanceMethod yX10_oftenOf ∈ lw_tbl := List.mem_of_getElem? (i := 1100) (by decide +kernel)
theorem cd_X10_oftenOf : Cond.code yX10_oftenOf cX10_oftenOf 3 (some .int) ∈ lw_tbl := List.mem_of_getElem? (i := 1101) (by decide +kernel)
theorem ml_L_157 : Cond.methodLink RL 157 yX10_sure ∈ lw_tbl := List.mem_of_getElem? (i := 1102) (by decide +kernel)
theorem im_X10_sure : Cond.instanceMethod yX10_sure ∈ lw_tbl := List.mem_of_getElem? (i := 1103) (by decide +kernel)
theorem se_X10_sure : Cond.selects RX10 yX10_sure yX10_sure ∈ lw_tbl := List.mem_of_getElem? (i := 1104) (by decide +kernel)
theorem cd_X10_sure : Cond.code yX10_sure cX10_sure 2 (some .int) ∈ lw_tbl := List.mem_of_getElem? (i := 1105) (by decide +kernel)
theorem ml_L_161 : Cond.methodLink RL 161 yX10_against ∈ lw_tbl := List.mem_of_getElem? (i := 1106) (by decide +kernel)
theorem im_X10_against : Cond.instanceMethod yX10_against ∈ lw_tbl := List.mem_of_getElem? (i := 1107) (by decide +kernel)
theorem se_X10_against : Cond.selects RX10 yX10_against yX10_against ∈ lw_tbl := List.mem_of_getElem? (i := 1108) (by decide +kernel)
theorem cd_X10_against : Cond.code yX10_against cX10_against 2 (some .int) ∈ lw_tbl := List.mem_of_getElem? (i := 1109) (by decide +kernel)
theorem ml_L_165 : Cond.methodLink RL 165 yX10_count ∈ lw_tbl := List.mem_of_getElem? (i := 1110) (by decide +kernel)
theorem im_X10_count : Cond.instanceMethod yX10_count ∈ lw_tbl := List.mem_of_getElem? (i := 1111) (by decide +kernel)
theorem se_X10_count : Cond.selects RX10 yX10_count yX10_count ∈ lw_tbl := List.mem_of_getElem? (i := 1112) (by decide +kernel)
theorem cd_X10_count : Cond.code yX10_count cX10_count 4 (some .int) ∈ lw_tbl := List.mem_of_getElem? (i := 1113) (by decide +kernel)
theorem co_L_23 : Cond.constantLong RL 23 4294967295 ∈ lw_tbl := List.mem_of_getElem? (i := 1114) (by decide +kernel)
theorem inX0 : ∀ w ∈ wsX00, w ∈ lw_tbl := by decide +kernel
theorem inX1 : ∀ w ∈ wsX10, w ∈ lw_tbl := by decide +kernel
theorem inX2 : ∀ w ∈ wsX20, w ∈ lw_tbl := by decide +kernel
theorem inX3 : ∀ w ∈ wsX30, w ∈ lw_tbl := by decide +kernel
theorem inX4 : ∀ w ∈ wsX40, w ∈ lw_tbl := by decide +kernel
theorem inX5 : ∀ w ∈ wsX50, w ∈ lw_tbl := by decide +kernel
theorem inX6 : ∀ w ∈ wsX60, w ∈ lw_tbl := by decide +kernel
theorem inX7 : ∀ w ∈ wsX70, w ∈ lw_tbl := by decide +kernel
theorem inX8 : ∀ w ∈ wsX80, w ∈ lw_tbl := by decide +kernel
theorem inX9 : ∀ w ∈ wsX90, w ∈ lw_tbl := by decide +kernel
theorem inX10 : ∀ w ∈ wsX100, w ∈ lw_tbl := by decide +kernel
end
section
-- names, fields, the words of the tables by their places: by program (wip/whole/gen01.py) out of the claim's printed texts
theorem dX0_init_0 : decode cX0_init 0 = .ok (.aload_n 0, 1) := by decide +kernel
theorem dX0_init_1 : decode cX0_init 1 = .ok (.invokespecial 1, 3) := by decide +kernel
theorem dX0_init_4 : decode cX0_init 4 = .ok (.return_, 1) := by decide +kernel
theorem dX1_init_0 : decode cX1_init 0 = .ok (.aload_n 0, 1) := by decide +kernel
theorem dX1_init_1 : decode cX1_init 1 = .ok (.invokespecial 1, 3) := by decide +kernel
theorem dX1_init_4 : decode cX1_init 4 = .ok (.return_, 1) := by decide +kernel
theorem dX2_init_0 : decode cX2_init 0 = .ok (.aload_n 0, 1) := by decide +kernel
theorem dX2_init_1 : decode cX2_init 1 = .ok (.invokespecial 3, 3) := by decide +kernel
theorem dX2_init_4 : decode cX2_init 4 = .ok (.aload_n 0, 1) := by decide +kernel
theorem dX2_init_5 : decode cX2_init 5 = .ok (.bipush 10, 2) := by decide +kernel
theorem dX2_init_7 : decode cX2_init 7 = .ok (.anewarray 9, 3) := by decide +kernel
theorem dX2_init_10 : decode cX2_init 10 = .ok (.putfield 11, 3) := by decide +kernel
theorem dX2_init_13 : decode cX2_init 13 = .ok (.aload_n 0, 1) := by decide +kernel
theorem dX2_init_14 : decode cX2_init 14 = .ok (.sipush 4096, 3) := by decide +kernel
theorem dX2_init_17 : decode cX2_init 17 = .ok (.newarray .int, 2) := by decide +kernel
theorem dX2_init_19 : decode cX2_init 19 = .ok (.putfield 17, 3) := by decide +kernel
theorem dX2_init_22 : decode cX2_init 22 = .ok (.aload_n 0, 1) := by decide +kernel
theorem dX2_init_23 : decode cX2_init 23 = .ok (.aload_n 1, 1) := by decide +kernel
theorem dX2_init_24 : decode cX2_init 24 = .ok (.putfield 21, 3) := by decide +kernel
theorem dX2_init_27 : decode cX2_init 27 = .ok (.iconst 0, 1) := by decide +kernel
theorem dX2_init_28 : decode cX2_init 28 = .ok (.istore_n 2, 1) := by decide +kernel
theorem dX2_init_29 : decode cX2_init 29 = .ok (.iload_n 2, 1) := by decide +kernel
theorem dX2_init_30 : decode cX2_init 30 = .ok (.bipush 10, 2) := by decide +kernel
theorem dX2_init_32 : decode cX2_init 32 = .ok (.if_icmp .ge 22, 3) := by decide +kernel
theorem dX2_init_35 : decode cX2_init 35 = .ok (.aload_n 0, 1) := by decide +kernel
theorem dX2_init_36 : decode cX2_init 36 = .ok (.getfield 11, 3) := by decide +kernel
theorem dX2_init_39 : decode cX2_init 39 = .ok (.iload_n 2, 1) := by decide +kernel
theorem dX2_init_40 : decode cX2_init 40 = .ok (.new 9, 3) := by decide +kernel
theorem dX2_init_43 : decode cX2_init 43 = .ok (.dup, 1) := by decide +kernel
theorem dX2_init_44 : decode cX2_init 44 = .ok (.invokespecial 25, 3) := by decide +kernel
theorem dX2_init_47 : decode cX2_init 47 = .ok (.aastore, 1) := by decide +kernel
theorem dX2_init_48 : decode cX2_init 48 = .ok (.iinc 2 1, 3) := by decide +kernel
theorem dX2_init_51 : decode cX2_init 51 = .ok (.goto (-22), 3) := by decide +kernel
theorem dX2_init_54 : decode cX2_init 54 = .ok (.return_, 1) := by decide +kernel
theorem dX2_add_0 : decode cX2_add 0 = .ok (.aload_n 0, 1) := by decide +kernel
theorem dX2_add_1 : decode cX2_add 1 = .ok (.getfield 11, 3) := by decide +kernel
theorem dX2_add_4 : decode cX2_add 4 = .ok (.aload_n 0, 1) := by decide +kernel
theorem dX2_add_5 : decode cX2_add 5 = .ok (.getfield 26, 3) := by decide +kernel
theorem dX2_add_8 : decode cX2_add 8 = .ok (.aaload, 1) := by decide +kernel
theorem dX2_add_9 : decode cX2_add 9 = .ok (.astore_n 3, 1) := by decide +kernel
theorem dX2_add_10 : decode cX2_add 10 = .ok (.aload_n 3, 1) := by decide +kernel
theorem dX2_add_11 : decode cX2_add 11 = .ok (.iload_n 1, 1) := by decide +kernel
theorem dX2_add_12 : decode cX2_add 12 = .ok (.putfield 30, 3) := by decide +kernel
theorem dX2_add_15 : decode cX2_add 15 = .ok (.aload_n 3, 1) := by decide +kernel
theorem dX2_add_16 : decode cX2_add 16 = .ok (.iload_n 2, 1) := by decide +kernel
theorem dX2_add_17 : decode cX2_add 17 = .ok (.putfield 33, 3) := by decide +kernel
theorem dX2_add_20 : decode cX2_add 20 = .ok (.aload_n 3, 1) := by decide +kernel
theorem dX2_add_21 : decode cX2_add 21 = .ok (.iconst 1, 1) := by decide +kernel
theorem dX2_add_22 : decode cX2_add 22 = .ok (.putfield 36, 3) := by decide +kernel
theorem dX2_add_25 : decode cX2_add 25 = .ok (.aload_n 0, 1) := by decide +kernel
theorem dX2_add_26 : decode cX2_add 26 = .ok (.dup, 1) := by decide +kernel
theorem dX2_add_27 : decode cX2_add 27 = .ok (.getfield 26, 3) := by decide +kernel
theorem dX2_add_30 : decode cX2_add 30 = .ok (.iconst 1, 1) := by decide +kernel
theorem dX2_add_31 : decode cX2_add 31 = .ok (.iadd, 1) := by decide +kernel
theorem dX2_add_32 : decode cX2_add 32 = .ok (.putfield 26, 3) := by decide +kernel
theorem dX2_add_35 : decode cX2_add 35 = .ok (.aload_n 3, 1) := by decide +kernel
theorem dX2_add_36 : decode cX2_add 36 = .ok (.areturn, 1) := by decide +kernel
theorem dX2_leastBroken_0 : decode cX2_leastBroken 0 = .ok (.iconst 0, 1) := by decide +kernel
theorem dX2_leastBroken_1 : decode cX2_leastBroken 1 = .ok (.istore_n 2, 1) := by decide +kernel
theorem dX2_leastBroken_2 : decode cX2_leastBroken 2 = .ok (.iload_n 2, 1) := by decide +kernel
theorem dX2_leastBroken_3 : decode cX2_leastBroken 3 = .ok (.aload_n 0, 1) := by decide +kernel
theorem dX2_leastBroken_4 : decode cX2_leastBroken 4 = .ok (.getfield 26, 3) := by decide +kernel
theorem dX2_leastBroken_7 : decode cX2_leastBroken 7 = .ok (.if_icmp .ge 41, 3) := by decide +kernel
theorem dX2_leastBroken_10 : decode cX2_leastBroken 10 = .ok (.aload_n 0, 1) := by decide +kernel
theorem dX2_leastBroken_11 : decode cX2_leastBroken 11 = .ok (.getfield 11, 3) := by decide +kernel
theorem dX2_leastBroken_14 : decode cX2_leastBroken 14 = .ok (.iload_n 2, 1) := by decide +kernel
theorem dX2_leastBroken_15 : decode cX2_leastBroken 15 = .ok (.aaload, 1) := by decide +kernel
theorem dX2_leastBroken_16 : decode cX2_leastBroken 16 = .ok (.getfield 36, 3) := by decide +kernel
theorem dX2_leastBroken_19 : decode cX2_leastBroken 19 = .ok (.ifCond .eq 23, 3) := by decide +kernel
theorem dX2_leastBroken_22 : decode cX2_leastBroken 22 = .ok (.aload_n 0, 1) := by decide +kernel
theorem dX2_leastBroken_23 : decode cX2_leastBroken 23 = .ok (.aload_n 0, 1) := by decide +kernel
theorem dX2_leastBroken_24 : decode cX2_leastBroken 24 = .ok (.getfield 11, 3) := by decide +kernel
theorem dX2_leastBroken_27 : decode cX2_leastBroken 27 = .ok (.iload_n 2, 1) := by decide +kernel
theorem dX2_leastBroken_28 : decode cX2_leastBroken 28 = .ok (.aaload, 1) := by decide +kernel
theorem dX2_leastBroken_29 : decode cX2_leastBroken 29 = .ok (.iload_n 1, 1) := by decide +kernel
theorem dX2_leastBroken_30 : decode cX2_leastBroken 30 = .ok (.invokevirtual 40, 3) := by decide +kernel
theorem dX2_leastBroken_33 : decode cX2_leastBroken 33 = .ok (.aload_n 0, 1) := by decide +kernel
theorem dX2_leastBroken_34 : decode cX2_leastBroken 34 = .ok (.getfield 44, 3) := by decide +kernel
theorem dX2_leastBroken_37 : decode cX2_leastBroken 37 = .ok (.ifCond .le 5, 3) := by decide +kernel
theorem dX2_leastBroken_40 : decode cX2_leastBroken 40 = .ok (.iload_n 2, 1) := by decide +kernel
theorem dX2_leastBroken_41 : decode cX2_leastBroken 41 = .ok (.ireturn, 1) := by decide +kernel
theorem dX2_leastBroken_42 : decode cX2_leastBroken 42 = .ok (.iinc 2 1, 3) := by decide +kernel
theorem dX2_leastBroken_45 : decode cX2_leastBroken 45 = .ok (.goto (-43), 3) := by decide +kernel
theorem dX2_leastBroken_48 : decode cX2_leastBroken 48 = .ok (.bipush (-9), 2) := by decide +kernel
theorem dX2_leastBroken_50 : decode cX2_leastBroken 50 = .ok (.ireturn, 1) := by decide +kernel
theorem dX2_find_0 : decode cX2_find 0 = .ok (.aload_n 0, 1) := by decide +kernel
theorem dX2_find_1 : decode cX2_find 1 = .ok (.iconst 0, 1) := by decide +kernel
theorem dX2_find_2 : decode cX2_find 2 = .ok (.putfield 44, 3) := by decide +kernel
theorem dX2_find_5 : decode cX2_find 5 = .ok (.aload_n 1, 1) := by decide +kernel
theorem dX2_find_6 : decode cX2_find 6 = .ok (.getfield 30, 3) := by decide +kernel
theorem dX2_find_9 : decode cX2_find 9 = .ok (.tableswitch 66 0 5 #[39, 66, 39, 66, 48, 57], 39) := by decide +kernel
theorem dX2_find_48 : decode cX2_find 48 = .ok (.aload_n 0, 1) := by decide +kernel
theorem dX2_find_49 : decode cX2_find 49 = .ok (.aload_n 1, 1) := by decide +kernel
theorem dX2_find_50 : decode cX2_find 50 = .ok (.iload_n 2, 1) := by decide +kernel
theorem dX2_find_51 : decode cX2_find 51 = .ok (.invokevirtual 47, 3) := by decide +kernel
theorem dX2_find_54 : decode cX2_find 54 = .ok (.goto 27, 3) := by decide +kernel
theorem dX2_find_57 : decode cX2_find 57 = .ok (.aload_n 0, 1) := by decide +kernel
theorem dX2_find_58 : decode cX2_find 58 = .ok (.aload_n 1, 1) := by decide +kernel
theorem dX2_find_59 : decode cX2_find 59 = .ok (.iload_n 2, 1) := by decide +kernel
theorem dX2_find_60 : decode cX2_find 60 = .ok (.invokevirtual 50, 3) := by decide +kernel
theorem dX2_find_63 : decode cX2_find 63 = .ok (.goto 18, 3) := by decide +kernel
theorem dX2_find_66 : decode cX2_find 66 = .ok (.aload_n 0, 1) := by decide +kernel
theorem dX2_find_67 : decode cX2_find 67 = .ok (.aload_n 1, 1) := by decide +kernel
theorem dX2_find_68 : decode cX2_find 68 = .ok (.iload_n 2, 1) := by decide +kernel
theorem dX2_find_69 : decode cX2_find 69 = .ok (.invokevirtual 53, 3) := by decide +kernel
theorem dX2_find_72 : decode cX2_find 72 = .ok (.goto 9, 3) := by decide +kernel
theorem dX2_find_75 : decode cX2_find 75 = .ok (.aload_n 0, 1) := by decide +kernel
theorem dX2_find_76 : decode cX2_find 76 = .ok (.aload_n 1, 1) := by decide +kernel
theorem dX2_find_77 : decode cX2_find 77 = .ok (.iload_n 2, 1) := by decide +kernel
theorem dX2_find_78 : decode cX2_find 78 = .ok (.invokevirtual 56, 3) := by decide +kernel
theorem dX2_find_81 : decode cX2_find 81 = .ok (.return_, 1) := by decide +kernel
theorem dX2_addFound_0 : decode cX2_addFound 0 = .ok (.aload_n 0, 1) := by decide +kernel
theorem dX2_addFound_1 : decode cX2_addFound 1 = .ok (.getfield 17, 3) := by decide +kernel
theorem dX2_addFound_4 : decode cX2_addFound 4 = .ok (.aload_n 0, 1) := by decide +kernel
theorem dX2_addFound_5 : decode cX2_addFound 5 = .ok (.getfield 44, 3) := by decide +kernel
theorem dX2_addFound_8 : decode cX2_addFound 8 = .ok (.iload_n 1, 1) := by decide +kernel
theorem dX2_addFound_9 : decode cX2_addFound 9 = .ok (.iastore, 1) := by decide +kernel
theorem dX2_addFound_10 : decode cX2_addFound 10 = .ok (.aload_n 0, 1) := by decide +kernel
theorem dX2_addFound_11 : decode cX2_addFound 11 = .ok (.dup, 1) := by decide +kernel
theorem dX2_addFound_12 : decode cX2_addFound 12 = .ok (.getfield 44, 3) := by decide +kernel
theorem dX2_addFound_15 : decode cX2_addFound 15 = .ok (.iconst 1, 1) := by decide +kernel
theorem dX2_addFound_16 : decode cX2_addFound 16 = .ok (.iadd, 1) := by decide +kernel
theorem dX2_addFound_17 : decode cX2_addFound 17 = .ok (.putfield 44, 3) := by decide +kernel
theorem dX2_addFound_20 : decode cX2_addFound 20 = .ok (.return_, 1) := by decide +kernel
theorem dX2_findSingles_0 : decode cX2_findSingles 0 = .ok (.iconst 0, 1) := by decide +kernel
theorem dX2_findSingles_1 : decode cX2_findSingles 1 = .ok (.istore_n 3, 1) := by decide +kernel
theorem dX2_findSingles_2 : decode cX2_findSingles 2 = .ok (.iload_n 3, 1) := by decide +kernel
theorem dX2_findSingles_3 : decode cX2_findSingles 3 = .ok (.aload_n 0, 1) := by decide +kernel
theorem dX2_findSingles_4 : decode cX2_findSingles 4 = .ok (.getfield 21, 3) := by decide +kernel
theorem dX2_findSingles_7 : decode cX2_findSingles 7 = .ok (.getfield 59, 3) := by decide +kernel
theorem dX2_findSingles_10 : decode cX2_findSingles 10 = .ok (.if_icmp .ge 60, 3) := by decide +kernel
theorem dX2_findSingles_13 : decode cX2_findSingles 13 = .ok (.iload_n 2, 1) := by decide +kernel
theorem dX2_findSingles_14 : decode cX2_findSingles 14 = .ok (.iload_n 3, 1) := by decide +kernel
theorem dX2_findSingles_15 : decode cX2_findSingles 15 = .ok (.invokestatic 62, 3) := by decide +kernel
theorem dX2_findSingles_18 : decode cX2_findSingles 18 = .ok (.ifCond .eq 46, 3) := by decide +kernel
theorem dX2_findSingles_21 : decode cX2_findSingles 21 = .ok (.aload_n 0, 1) := by decide +kernel
theorem dX2_findSingles_22 : decode cX2_findSingles 22 = .ok (.getfield 21, 3) := by decide +kernel
theorem dX2_findSingles_25 : decode cX2_findSingles 25 = .ok (.getfield 66, 3) := by decide +kernel
theorem dX2_findSingles_28 : decode cX2_findSingles 28 = .ok (.iload_n 3, 1) := by decide +kernel
theorem dX2_findSingles_29 : decode cX2_findSingles 29 = .ok (.aaload, 1) := by decide +kernel
theorem dX2_findSingles_30 : decode cX2_findSingles 30 = .ok (.getfield 69, 3) := by decide +kernel
theorem dX2_findSingles_33 : decode cX2_findSingles 33 = .ok (.aload_n 1, 1) := by decide +kernel
theorem dX2_findSingles_34 : decode cX2_findSingles 34 = .ok (.getfield 33, 3) := by decide +kernel
theorem dX2_findSingles_37 : decode cX2_findSingles 37 = .ok (.if_icmp .ne 27, 3) := by decide +kernel
theorem dX2_findSingles_40 : decode cX2_findSingles 40 = .ok (.aload_n 0, 1) := by decide +kernel
theorem dX2_findSingles_41 : decode cX2_findSingles 41 = .ok (.aload_n 1, 1) := by decide +kernel
theorem dX2_findSingles_42 : decode cX2_findSingles 42 = .ok (.aload_n 0, 1) := by decide +kernel
theorem dX2_findSingles_43 : decode cX2_findSingles 43 = .ok (.getfield 21, 3) := by decide +kernel
theorem dX2_findSingles_46 : decode cX2_findSingles 46 = .ok (.getfield 66, 3) := by decide +kernel
theorem dX2_findSingles_49 : decode cX2_findSingles 49 = .ok (.iload_n 3, 1) := by decide +kernel
theorem dX2_findSingles_50 : decode cX2_findSingles 50 = .ok (.aaload, 1) := by decide +kernel
theorem dX2_findSingles_51 : decode cX2_findSingles 51 = .ok (.invokevirtual 72, 3) := by decide +kernel
theorem dX2_findSingles_54 : decode cX2_findSingles 54 = .ok (.ifCond .eq 10, 3) := by decide +kernel
theorem dX2_findSingles_57 : decode cX2_findSingles 57 = .ok (.aload_n 0, 1) := by decide +kernel
theorem dX2_findSingles_58 : decode cX2_findSingles 58 = .ok (.iconst 1, 1) := by decide +kernel
theorem dX2_findSingles_59 : decode cX2_findSingles 59 = .ok (.iload_n 3, 1) := by decide +kernel
theorem dX2_findSingles_60 : decode cX2_findSingles 60 = .ok (.ishl, 1) := by decide +kernel
theorem dX2_findSingles_61 : decode cX2_findSingles 61 = .ok (.invokevirtual 76, 3) := by decide +kernel
theorem dX2_findSingles_64 : decode cX2_findSingles 64 = .ok (.iinc 3 1, 3) := by decide +kernel
theorem dX2_findSingles_67 : decode cX2_findSingles 67 = .ok (.goto (-65), 3) := by decide +kernel
theorem dX2_findSingles_70 : decode cX2_findSingles 70 = .ok (.return_, 1) := by decide +kernel
theorem dX2_quarrelsAlone_0 : decode cX2_quarrelsAlone 0 = .ok (.aload_n 1, 1) := by decide +kernel
theorem dX2_quarrelsAlone_1 : decode cX2_quarrelsAlone 1 = .ok (.getfield 30, 3) := by decide +kernel
theorem dX2_quarrelsAlone_4 : decode cX2_quarrelsAlone 4 = .ok (.iconst 3, 1) := by decide +kernel
theorem dX2_quarrelsAlone_5 : decode cX2_quarrelsAlone 5 = .ok (.if_icmp .ne 21, 3) := by decide +kernel
theorem dX2_quarrelsAlone_8 : decode cX2_quarrelsAlone 8 = .ok (.aload_n 2, 1) := by decide +kernel
theorem dX2_quarrelsAlone_9 : decode cX2_quarrelsAlone 9 = .ok (.getfield 80, 3) := by decide +kernel
theorem dX2_quarrelsAlone_12 : decode cX2_quarrelsAlone 12 = .ok (.aload_n 1, 1) := by decide +kernel
theorem dX2_quarrelsAlone_13 : decode cX2_quarrelsAlone 13 = .ok (.getfield 84, 3) := by decide +kernel
theorem dX2_quarrelsAlone_16 : decode cX2_quarrelsAlone 16 = .ok (.baload, 1) := by decide +kernel
theorem dX2_quarrelsAlone_17 : decode cX2_quarrelsAlone 17 = .ok (.ifCond .ne 7, 3) := by decide +kernel
theorem dX2_quarrelsAlone_20 : decode cX2_quarrelsAlone 20 = .ok (.iconst 1, 1) := by decide +kernel
theorem dX2_quarrelsAlone_21 : decode cX2_quarrelsAlone 21 = .ok (.goto 4, 3) := by decide +kernel
theorem dX2_quarrelsAlone_24 : decode cX2_quarrelsAlone 24 = .ok (.iconst 0, 1) := by decide +kernel
theorem dX2_quarrelsAlone_25 : decode cX2_quarrelsAlone 25 = .ok (.ireturn, 1) := by decide +kernel
theorem dX2_quarrelsAlone_26 : decode cX2_quarrelsAlone 26 = .ok (.aload_n 2, 1) := by decide +kernel
theorem dX2_quarrelsAlone_27 : decode cX2_quarrelsAlone 27 = .ok (.getfield 87, 3) := by decide +kernel
theorem dX2_quarrelsAlone_30 : decode cX2_quarrelsAlone 30 = .ok (.aload_n 1, 1) := by decide +kernel
theorem dX2_quarrelsAlone_31 : decode cX2_quarrelsAlone 31 = .ok (.getfield 84, 3) := by decide +kernel
theorem dX2_quarrelsAlone_34 : decode cX2_quarrelsAlone 34 = .ok (.laload, 1) := by decide +kernel
theorem dX2_quarrelsAlone_35 : decode cX2_quarrelsAlone 35 = .ok (.lstore_n 3, 1) := by decide +kernel
theorem dX2_quarrelsAlone_36 : decode cX2_quarrelsAlone 36 = .ok (.aload_n 2, 1) := by decide +kernel
theorem dX2_quarrelsAlone_37 : decode cX2_quarrelsAlone 37 = .ok (.getfield 80, 3) := by decide +kernel
theorem dX2_quarrelsAlone_40 : decode cX2_quarrelsAlone 40 = .ok (.aload_n 1, 1) := by decide +kernel
theorem dX2_quarrelsAlone_41 : decode cX2_quarrelsAlone 41 = .ok (.getfield 84, 3) := by decide +kernel
theorem dX2_quarrelsAlone_44 : decode cX2_quarrelsAlone 44 = .ok (.baload, 1) := by decide +kernel
theorem dX2_quarrelsAlone_45 : decode cX2_quarrelsAlone 45 = .ok (.ifCond .eq 25, 3) := by decide +kernel
theorem dX2_quarrelsAlone_48 : decode cX2_quarrelsAlone 48 = .ok (.lload_n 3, 1) := by decide +kernel
theorem dX2_quarrelsAlone_49 : decode cX2_quarrelsAlone 49 = .ok (.aload_n 1, 1) := by decide +kernel
theorem dX2_quarrelsAlone_50 : decode cX2_quarrelsAlone 50 = .ok (.getfield 91, 3) := by decide +kernel
theorem dX2_quarrelsAlone_53 : decode cX2_quarrelsAlone 53 = .ok (.lcmp, 1) := by decide +kernel
theorem dX2_quarrelsAlone_54 : decode cX2_quarrelsAlone 54 = .ok (.ifCond .lt 12, 3) := by decide +kernel
theorem dX2_quarrelsAlone_57 : decode cX2_quarrelsAlone 57 = .ok (.lload_n 3, 1) := by decide +kernel
theorem dX2_quarrelsAlone_58 : decode cX2_quarrelsAlone 58 = .ok (.aload_n 1, 1) := by decide +kernel
theorem dX2_quarrelsAlone_59 : decode cX2_quarrelsAlone 59 = .ok (.getfield 95, 3) := by decide +kernel
theorem dX2_quarrelsAlone_62 : decode cX2_quarrelsAlone 62 = .ok (.lcmp, 1) := by decide +kernel
theorem dX2_quarrelsAlone_63 : decode cX2_quarrelsAlone 63 = .ok (.ifCond .le 7, 3) := by decide +kernel
theorem dX2_quarrelsAlone_66 : decode cX2_quarrelsAlone 66 = .ok (.iconst 1, 1) := by decide +kernel
theorem dX2_quarrelsAlone_67 : decode cX2_quarrelsAlone 67 = .ok (.goto 4, 3) := by decide +kernel
theorem dX2_quarrelsAlone_70 : decode cX2_quarrelsAlone 70 = .ok (.iconst 0, 1) := by decide +kernel
theorem dX2_quarrelsAlone_71 : decode cX2_quarrelsAlone 71 = .ok (.ireturn, 1) := by decide +kernel
theorem dX2_findUnhelped_0 : decode cX2_findUnhelped 0 = .ok (.aload_n 0, 1) := by decide +kernel
theorem dX2_findUnhelped_1 : decode cX2_findUnhelped 1 = .ok (.getfield 21, 3) := by decide +kernel
theorem dX2_findUnhelped_4 : decode cX2_findUnhelped 4 = .ok (.aload_n 1, 1) := by decide +kernel
theorem dX2_findUnhelped_5 : decode cX2_findUnhelped 5 = .ok (.getfield 33, 3) := by decide +kernel
theorem dX2_findUnhelped_8 : decode cX2_findUnhelped 8 = .ok (.aload_n 1, 1) := by decide +kernel
theorem dX2_findUnhelped_9 : decode cX2_findUnhelped 9 = .ok (.getfield 84, 3) := by decide +kernel
theorem dX2_findUnhelped_12 : decode cX2_findUnhelped 12 = .ok (.iload_n 2, 1) := by decide +kernel
theorem dX2_findUnhelped_13 : decode cX2_findUnhelped 13 = .ok (.invokevirtual 98, 3) := by decide +kernel
theorem dX2_findUnhelped_16 : decode cX2_findUnhelped 16 = .ok (.istore_n 3, 1) := by decide +kernel
theorem dX2_findUnhelped_17 : decode cX2_findUnhelped 17 = .ok (.iconst 0, 1) := by decide +kernel
theorem dX2_findUnhelped_18 : decode cX2_findUnhelped 18 = .ok (.istore 4, 2) := by decide +kernel
theorem dX2_findUnhelped_20 : decode cX2_findUnhelped 20 = .ok (.iload 4, 2) := by decide +kernel
theorem dX2_findUnhelped_22 : decode cX2_findUnhelped 22 = .ok (.aload_n 0, 1) := by decide +kernel
theorem dX2_findUnhelped_23 : decode cX2_findUnhelped 23 = .ok (.getfield 21, 3) := by decide +kernel
theorem dX2_findUnhelped_26 : decode cX2_findUnhelped 26 = .ok (.getfield 59, 3) := by decide +kernel
theorem dX2_findUnhelped_29 : decode cX2_findUnhelped 29 = .ok (.if_icmp .ge 67, 3) := by decide +kernel
theorem dX2_findUnhelped_32 : decode cX2_findUnhelped 32 = .ok (.iload_n 3, 1) := by decide +kernel
theorem dX2_findUnhelped_33 : decode cX2_findUnhelped 33 = .ok (.iload 4, 2) := by decide +kernel
theorem dX2_findUnhelped_35 : decode cX2_findUnhelped 35 = .ok (.invokestatic 62, 3) := by decide +kernel
theorem dX2_findUnhelped_38 : decode cX2_findUnhelped 38 = .ok (.ifCond .eq 52, 3) := by decide +kernel
theorem dX2_findUnhelped_41 : decode cX2_findUnhelped 41 = .ok (.aload_n 0, 1) := by decide +kernel
theorem dX2_findUnhelped_42 : decode cX2_findUnhelped 42 = .ok (.getfield 21, 3) := by decide +kernel
theorem dX2_findUnhelped_45 : decode cX2_findUnhelped 45 = .ok (.getfield 66, 3) := by decide +kernel
theorem dX2_findUnhelped_48 : decode cX2_findUnhelped 48 = .ok (.iload 4, 2) := by decide +kernel
theorem dX2_findUnhelped_50 : decode cX2_findUnhelped 50 = .ok (.aaload, 1) := by decide +kernel
theorem dX2_findUnhelped_51 : decode cX2_findUnhelped 51 = .ok (.getfield 87, 3) := by decide +kernel
theorem dX2_findUnhelped_54 : decode cX2_findUnhelped 54 = .ok (.aload_n 1, 1) := by decide +kernel
theorem dX2_findUnhelped_55 : decode cX2_findUnhelped 55 = .ok (.getfield 84, 3) := by decide +kernel
theorem dX2_findUnhelped_58 : decode cX2_findUnhelped 58 = .ok (.laload, 1) := by decide +kernel
theorem dX2_findUnhelped_59 : decode cX2_findUnhelped 59 = .ok (.lstore 5, 2) := by decide +kernel
theorem dX2_findUnhelped_61 : decode cX2_findUnhelped 61 = .ok (.aload_n 0, 1) := by decide +kernel
theorem dX2_findUnhelped_62 : decode cX2_findUnhelped 62 = .ok (.getfield 21, 3) := by decide +kernel
theorem dX2_findUnhelped_65 : decode cX2_findUnhelped 65 = .ok (.aload_n 1, 1) := by decide +kernel
theorem dX2_findUnhelped_66 : decode cX2_findUnhelped 66 = .ok (.getfield 102, 3) := by decide +kernel
theorem dX2_findUnhelped_69 : decode cX2_findUnhelped 69 = .ok (.aload_n 1, 1) := by decide +kernel
theorem dX2_findUnhelped_70 : decode cX2_findUnhelped 70 = .ok (.getfield 105, 3) := by decide +kernel
theorem dX2_findUnhelped_73 : decode cX2_findUnhelped 73 = .ok (.lload 5, 2) := by decide +kernel
theorem dX2_findUnhelped_75 : decode cX2_findUnhelped 75 = .ok (.iload_n 2, 1) := by decide +kernel
theorem dX2_findUnhelped_76 : decode cX2_findUnhelped 76 = .ok (.invokevirtual 108, 3) := by decide +kernel
theorem dX2_findUnhelped_79 : decode cX2_findUnhelped 79 = .ok (.ifCond .ne 11, 3) := by decide +kernel
theorem dX2_findUnhelped_82 : decode cX2_findUnhelped 82 = .ok (.aload_n 0, 1) := by decide +kernel
theorem dX2_findUnhelped_83 : decode cX2_findUnhelped 83 = .ok (.iconst 1, 1) := by decide +kernel
theorem dX2_findUnhelped_84 : decode cX2_findUnhelped 84 = .ok (.iload 4, 2) := by decide +kernel
theorem dX2_findUnhelped_86 : decode cX2_findUnhelped 86 = .ok (.ishl, 1) := by decide +kernel
theorem dX2_findUnhelped_87 : decode cX2_findUnhelped 87 = .ok (.invokevirtual 76, 3) := by decide +kernel
theorem dX2_findUnhelped_90 : decode cX2_findUnhelped 90 = .ok (.iinc 4 1, 3) := by decide +kernel
theorem dX2_findUnhelped_93 : decode cX2_findUnhelped 93 = .ok (.goto (-73), 3) := by decide +kernel
theorem dX2_findUnhelped_96 : decode cX2_findUnhelped 96 = .ok (.return_, 1) := by decide +kernel
theorem dX2_findPairs_0 : decode cX2_findPairs 0 = .ok (.aload_n 0, 1) := by decide +kernel
theorem dX2_findPairs_1 : decode cX2_findPairs 1 = .ok (.getfield 21, 3) := by decide +kernel
theorem dX2_findPairs_4 : decode cX2_findPairs 4 = .ok (.aload_n 1, 1) := by decide +kernel
theorem dX2_findPairs_5 : decode cX2_findPairs 5 = .ok (.getfield 33, 3) := by decide +kernel
theorem dX2_findPairs_8 : decode cX2_findPairs 8 = .ok (.aload_n 1, 1) := by decide +kernel
theorem dX2_findPairs_9 : decode cX2_findPairs 9 = .ok (.getfield 84, 3) := by decide +kernel
theorem dX2_findPairs_12 : decode cX2_findPairs 12 = .ok (.iload_n 2, 1) := by decide +kernel
theorem dX2_findPairs_13 : decode cX2_findPairs 13 = .ok (.invokevirtual 98, 3) := by decide +kernel
theorem dX2_findPairs_16 : decode cX2_findPairs 16 = .ok (.aload_n 0, 1) := by decide +kernel
theorem dX2_findPairs_17 : decode cX2_findPairs 17 = .ok (.getfield 21, 3) := by decide +kernel
theorem dX2_findPairs_20 : decode cX2_findPairs 20 = .ok (.aload_n 1, 1) := by decide +kernel
theorem dX2_findPairs_21 : decode cX2_findPairs 21 = .ok (.getfield 33, 3) := by decide +kernel
theorem dX2_findPairs_24 : decode cX2_findPairs 24 = .ok (.aload_n 1, 1) := by decide +kernel
theorem dX2_findPairs_25 : decode cX2_findPairs 25 = .ok (.getfield 105, 3) := by decide +kernel
theorem dX2_findPairs_28 : decode cX2_findPairs 28 = .ok (.iload_n 2, 1) := by decide +kernel
theorem dX2_findPairs_29 : decode cX2_findPairs 29 = .ok (.invokevirtual 98, 3) := by decide +kernel
theorem dX2_findPairs_32 : decode cX2_findPairs 32 = .ok (.iand, 1) := by decide +kernel
theorem dX2_findPairs_33 : decode cX2_findPairs 33 = .ok (.istore_n 3, 1) := by decide +kernel
theorem dX2_findPairs_34 : decode cX2_findPairs 34 = .ok (.iconst 1, 1) := by decide +kernel
theorem dX2_findPairs_35 : decode cX2_findPairs 35 = .ok (.istore 4, 2) := by decide +kernel
theorem dX2_findPairs_37 : decode cX2_findPairs 37 = .ok (.iload 4, 2) := by decide +kernel
theorem dX2_findPairs_39 : decode cX2_findPairs 39 = .ok (.aload_n 0, 1) := by decide +kernel
theorem dX2_findPairs_40 : decode cX2_findPairs 40 = .ok (.getfield 21, 3) := by decide +kernel
theorem dX2_findPairs_43 : decode cX2_findPairs 43 = .ok (.getfield 59, 3) := by decide +kernel
theorem dX2_findPairs_46 : decode cX2_findPairs 46 = .ok (.if_icmp .ge 84, 3) := by decide +kernel
theorem dX2_findPairs_49 : decode cX2_findPairs 49 = .ok (.iconst 0, 1) := by decide +kernel
theorem dX2_findPairs_50 : decode cX2_findPairs 50 = .ok (.istore 5, 2) := by decide +kernel
theorem dX2_findPairs_52 : decode cX2_findPairs 52 = .ok (.iload 5, 2) := by decide +kernel
theorem dX2_findPairs_54 : decode cX2_findPairs 54 = .ok (.iload 4, 2) := by decide +kernel
theorem dX2_findPairs_56 : decode cX2_findPairs 56 = .ok (.if_icmp .ge 68, 3) := by decide +kernel
theorem dX2_findPairs_59 : decode cX2_findPairs 59 = .ok (.iload_n 3, 1) := by decide +kernel
theorem dX2_findPairs_60 : decode cX2_findPairs 60 = .ok (.iload 4, 2) := by decide +kernel
theorem dX2_findPairs_62 : decode cX2_findPairs 62 = .ok (.invokestatic 62, 3) := by decide +kernel
theorem dX2_findPairs_65 : decode cX2_findPairs 65 = .ok (.ifCond .eq 53, 3) := by decide +kernel
theorem dX2_findPairs_68 : decode cX2_findPairs 68 = .ok (.iload_n 3, 1) := by decide +kernel
theorem dX2_findPairs_69 : decode cX2_findPairs 69 = .ok (.iload 5, 2) := by decide +kernel
theorem dX2_findPairs_71 : decode cX2_findPairs 71 = .ok (.invokestatic 62, 3) := by decide +kernel
theorem dX2_findPairs_74 : decode cX2_findPairs 74 = .ok (.ifCond .eq 44, 3) := by decide +kernel
theorem dX2_findPairs_77 : decode cX2_findPairs 77 = .ok (.aload_n 0, 1) := by decide +kernel
theorem dX2_findPairs_78 : decode cX2_findPairs 78 = .ok (.aload_n 1, 1) := by decide +kernel
theorem dX2_findPairs_79 : decode cX2_findPairs 79 = .ok (.aload_n 0, 1) := by decide +kernel
theorem dX2_findPairs_80 : decode cX2_findPairs 80 = .ok (.getfield 21, 3) := by decide +kernel
theorem dX2_findPairs_83 : decode cX2_findPairs 83 = .ok (.getfield 66, 3) := by decide +kernel
theorem dX2_findPairs_86 : decode cX2_findPairs 86 = .ok (.iload 5, 2) := by decide +kernel
theorem dX2_findPairs_88 : decode cX2_findPairs 88 = .ok (.aaload, 1) := by decide +kernel
theorem dX2_findPairs_89 : decode cX2_findPairs 89 = .ok (.aload_n 0, 1) := by decide +kernel
theorem dX2_findPairs_90 : decode cX2_findPairs 90 = .ok (.getfield 21, 3) := by decide +kernel
theorem dX2_findPairs_93 : decode cX2_findPairs 93 = .ok (.getfield 66, 3) := by decide +kernel
theorem dX2_findPairs_96 : decode cX2_findPairs 96 = .ok (.iload 4, 2) := by decide +kernel
theorem dX2_findPairs_98 : decode cX2_findPairs 98 = .ok (.aaload, 1) := by decide +kernel
theorem dX2_findPairs_99 : decode cX2_findPairs 99 = .ok (.invokevirtual 112, 3) := by decide +kernel
theorem dX2_findPairs_102 : decode cX2_findPairs 102 = .ok (.ifCond .eq 16, 3) := by decide +kernel
theorem dX2_findPairs_105 : decode cX2_findPairs 105 = .ok (.aload_n 0, 1) := by decide +kernel
theorem dX2_findPairs_106 : decode cX2_findPairs 106 = .ok (.iconst 1, 1) := by decide +kernel
theorem dX2_findPairs_107 : decode cX2_findPairs 107 = .ok (.iload 4, 2) := by decide +kernel
theorem dX2_findPairs_109 : decode cX2_findPairs 109 = .ok (.ishl, 1) := by decide +kernel
theorem dX2_findPairs_110 : decode cX2_findPairs 110 = .ok (.iconst 1, 1) := by decide +kernel
theorem dX2_findPairs_111 : decode cX2_findPairs 111 = .ok (.iload 5, 2) := by decide +kernel
theorem dX2_findPairs_113 : decode cX2_findPairs 113 = .ok (.ishl, 1) := by decide +kernel
theorem dX2_findPairs_114 : decode cX2_findPairs 114 = .ok (.ior, 1) := by decide +kernel
theorem dX2_findPairs_115 : decode cX2_findPairs 115 = .ok (.invokevirtual 76, 3) := by decide +kernel
theorem dX2_findPairs_118 : decode cX2_findPairs 118 = .ok (.iinc 5 1, 3) := by decide +kernel
theorem dX2_findPairs_121 : decode cX2_findPairs 121 = .ok (.goto (-69), 3) := by decide +kernel
theorem dX2_findPairs_124 : decode cX2_findPairs 124 = .ok (.iinc 4 1, 3) := by decide +kernel
theorem dX2_findPairs_127 : decode cX2_findPairs 127 = .ok (.goto (-90), 3) := by decide +kernel
theorem dX2_findPairs_130 : decode cX2_findPairs 130 = .ok (.return_, 1) := by decide +kernel
theorem dX2_quarrelTogether_0 : decode cX2_quarrelTogether 0 = .ok (.aload_n 2, 1) := by decide +kernel
theorem dX2_quarrelTogether_1 : decode cX2_quarrelTogether 1 = .ok (.getfield 87, 3) := by decide +kernel
theorem dX2_quarrelTogether_4 : decode cX2_quarrelTogether 4 = .ok (.aload_n 1, 1) := by decide +kernel
theorem dX2_quarrelTogether_5 : decode cX2_quarrelTogether 5 = .ok (.getfield 84, 3) := by decide +kernel
theorem dX2_quarrelTogether_8 : decode cX2_quarrelTogether 8 = .ok (.laload, 1) := by decide +kernel
theorem dX2_quarrelTogether_9 : decode cX2_quarrelTogether 9 = .ok (.aload_n 3, 1) := by decide +kernel
theorem dX2_quarrelTogether_10 : decode cX2_quarrelTogether 10 = .ok (.getfield 87, 3) := by decide +kernel
theorem dX2_quarrelTogether_13 : decode cX2_quarrelTogether 13 = .ok (.aload_n 1, 1) := by decide +kernel
theorem dX2_quarrelTogether_14 : decode cX2_quarrelTogether 14 = .ok (.getfield 84, 3) := by decide +kernel
theorem dX2_quarrelTogether_17 : decode cX2_quarrelTogether 17 = .ok (.laload, 1) := by decide +kernel
theorem dX2_quarrelTogether_18 : decode cX2_quarrelTogether 18 = .ok (.lcmp, 1) := by decide +kernel
theorem dX2_quarrelTogether_19 : decode cX2_quarrelTogether 19 = .ok (.ifCond .eq 5, 3) := by decide +kernel
theorem dX2_quarrelTogether_22 : decode cX2_quarrelTogether 22 = .ok (.iconst 0, 1) := by decide +kernel
theorem dX2_quarrelTogether_23 : decode cX2_quarrelTogether 23 = .ok (.ireturn, 1) := by decide +kernel
theorem dX2_quarrelTogether_24 : decode cX2_quarrelTogether 24 = .ok (.aload_n 2, 1) := by decide +kernel
theorem dX2_quarrelTogether_25 : decode cX2_quarrelTogether 25 = .ok (.getfield 87, 3) := by decide +kernel
theorem dX2_quarrelTogether_28 : decode cX2_quarrelTogether 28 = .ok (.aload_n 1, 1) := by decide +kernel
theorem dX2_quarrelTogether_29 : decode cX2_quarrelTogether 29 = .ok (.getfield 105, 3) := by decide +kernel
theorem dX2_quarrelTogether_32 : decode cX2_quarrelTogether 32 = .ok (.laload, 1) := by decide +kernel
theorem dX2_quarrelTogether_33 : decode cX2_quarrelTogether 33 = .ok (.lstore 4, 2) := by decide +kernel
theorem dX2_quarrelTogether_35 : decode cX2_quarrelTogether 35 = .ok (.aload_n 3, 1) := by decide +kernel
theorem dX2_quarrelTogether_36 : decode cX2_quarrelTogether 36 = .ok (.getfield 87, 3) := by decide +kernel
theorem dX2_quarrelTogether_39 : decode cX2_quarrelTogether 39 = .ok (.aload_n 1, 1) := by decide +kernel
theorem dX2_quarrelTogether_40 : decode cX2_quarrelTogether 40 = .ok (.getfield 105, 3) := by decide +kernel
theorem dX2_quarrelTogether_43 : decode cX2_quarrelTogether 43 = .ok (.laload, 1) := by decide +kernel
theorem dX2_quarrelTogether_44 : decode cX2_quarrelTogether 44 = .ok (.lstore 6, 2) := by decide +kernel
theorem dX2_quarrelTogether_46 : decode cX2_quarrelTogether 46 = .ok (.aload_n 1, 1) := by decide +kernel
theorem dX2_quarrelTogether_47 : decode cX2_quarrelTogether 47 = .ok (.getfield 30, 3) := by decide +kernel
theorem dX2_quarrelTogether_50 : decode cX2_quarrelTogether 50 = .ok (.ifCond .ne 19, 3) := by decide +kernel
theorem dX2_quarrelTogether_53 : decode cX2_quarrelTogether 53 = .ok (.lload 4, 2) := by decide +kernel
theorem dX2_quarrelTogether_55 : decode cX2_quarrelTogether 55 = .ok (.lload 6, 2) := by decide +kernel
theorem dX2_quarrelTogether_57 : decode cX2_quarrelTogether 57 = .ok (.lcmp, 1) := by decide +kernel
theorem dX2_quarrelTogether_58 : decode cX2_quarrelTogether 58 = .ok (.ifCond .eq 7, 3) := by decide +kernel
theorem dX2_quarrelTogether_61 : decode cX2_quarrelTogether 61 = .ok (.iconst 1, 1) := by decide +kernel
theorem dX2_quarrelTogether_62 : decode cX2_quarrelTogether 62 = .ok (.goto 19, 3) := by decide +kernel
theorem dX2_quarrelTogether_65 : decode cX2_quarrelTogether 65 = .ok (.iconst 0, 1) := by decide +kernel
theorem dX2_quarrelTogether_66 : decode cX2_quarrelTogether 66 = .ok (.goto 15, 3) := by decide +kernel
theorem dX2_quarrelTogether_69 : decode cX2_quarrelTogether 69 = .ok (.aload_n 0, 1) := by decide +kernel
theorem dX2_quarrelTogether_70 : decode cX2_quarrelTogether 70 = .ok (.lload 4, 2) := by decide +kernel
theorem dX2_quarrelTogether_72 : decode cX2_quarrelTogether 72 = .ok (.lload 6, 2) := by decide +kernel
theorem dX2_quarrelTogether_74 : decode cX2_quarrelTogether 74 = .ok (.aload_n 1, 1) := by decide +kernel
theorem dX2_quarrelTogether_75 : decode cX2_quarrelTogether 75 = .ok (.getfield 91, 3) := by decide +kernel
theorem dX2_quarrelTogether_78 : decode cX2_quarrelTogether 78 = .ok (.invokevirtual 116, 3) := by decide +kernel
theorem dX2_quarrelTogether_81 : decode cX2_quarrelTogether 81 = .ok (.ireturn, 1) := by decide +kernel
theorem dX2_areNearer_0 : decode cX2_areNearer 0 = .ok (.lload_n 1, 1) := by decide +kernel
theorem dX2_areNearer_1 : decode cX2_areNearer 1 = .ok (.lload_n 3, 1) := by decide +kernel
theorem dX2_areNearer_2 : decode cX2_areNearer 2 = .ok (.lcmp, 1) := by decide +kernel
theorem dX2_areNearer_3 : decode cX2_areNearer 3 = .ok (.ifCond .le 9, 3) := by decide +kernel
theorem dX2_areNearer_6 : decode cX2_areNearer 6 = .ok (.lload_n 1, 1) := by decide +kernel
theorem dX2_areNearer_7 : decode cX2_areNearer 7 = .ok (.lload_n 3, 1) := by decide +kernel
theorem dX2_areNearer_8 : decode cX2_areNearer 8 = .ok (.lsub, 1) := by decide +kernel
theorem dX2_areNearer_9 : decode cX2_areNearer 9 = .ok (.goto 6, 3) := by decide +kernel
theorem dX2_areNearer_12 : decode cX2_areNearer 12 = .ok (.lload_n 3, 1) := by decide +kernel
theorem dX2_areNearer_13 : decode cX2_areNearer 13 = .ok (.lload_n 1, 1) := by decide +kernel
theorem dX2_areNearer_14 : decode cX2_areNearer 14 = .ok (.lsub, 1) := by decide +kernel
theorem dX2_areNearer_15 : decode cX2_areNearer 15 = .ok (.lstore 7, 2) := by decide +kernel
theorem dX2_areNearer_17 : decode cX2_areNearer 17 = .ok (.lload 7, 2) := by decide +kernel
theorem dX2_areNearer_19 : decode cX2_areNearer 19 = .ok (.lconst 0, 1) := by decide +kernel
theorem dX2_areNearer_20 : decode cX2_areNearer 20 = .ok (.lcmp, 1) := by decide +kernel
theorem dX2_areNearer_21 : decode cX2_areNearer 21 = .ok (.ifCond .lt 15, 3) := by decide +kernel
theorem dX2_areNearer_24 : decode cX2_areNearer 24 = .ok (.lload 7, 2) := by decide +kernel
theorem dX2_areNearer_26 : decode cX2_areNearer 26 = .ok (.lload 5, 2) := by decide +kernel
theorem dX2_areNearer_28 : decode cX2_areNearer 28 = .ok (.lcmp, 1) := by decide +kernel
theorem dX2_areNearer_29 : decode cX2_areNearer 29 = .ok (.ifCond .ge 7, 3) := by decide +kernel
theorem dX2_areNearer_32 : decode cX2_areNearer 32 = .ok (.iconst 1, 1) := by decide +kernel
theorem dX2_areNearer_33 : decode cX2_areNearer 33 = .ok (.goto 4, 3) := by decide +kernel
theorem dX2_areNearer_36 : decode cX2_areNearer 36 = .ok (.iconst 0, 1) := by decide +kernel
theorem dX2_areNearer_37 : decode cX2_areNearer 37 = .ok (.ireturn, 1) := by decide +kernel
theorem dX2_findSums_0 : decode cX2_findSums 0 = .ok (.aload_n 0, 1) := by decide +kernel
theorem dX2_findSums_1 : decode cX2_findSums 1 = .ok (.getfield 21, 3) := by decide +kernel
theorem dX2_findSums_4 : decode cX2_findSums 4 = .ok (.aload_n 1, 1) := by decide +kernel
theorem dX2_findSums_5 : decode cX2_findSums 5 = .ok (.getfield 33, 3) := by decide +kernel
theorem dX2_findSums_8 : decode cX2_findSums 8 = .ok (.aload_n 1, 1) := by decide +kernel
theorem dX2_findSums_9 : decode cX2_findSums 9 = .ok (.getfield 84, 3) := by decide +kernel
theorem dX2_findSums_12 : decode cX2_findSums 12 = .ok (.iload_n 2, 1) := by decide +kernel
theorem dX2_findSums_13 : decode cX2_findSums 13 = .ok (.invokevirtual 98, 3) := by decide +kernel
theorem dX2_findSums_16 : decode cX2_findSums 16 = .ok (.aload_n 0, 1) := by decide +kernel
theorem dX2_findSums_17 : decode cX2_findSums 17 = .ok (.getfield 21, 3) := by decide +kernel
theorem dX2_findSums_20 : decode cX2_findSums 20 = .ok (.aload_n 1, 1) := by decide +kernel
theorem dX2_findSums_21 : decode cX2_findSums 21 = .ok (.getfield 33, 3) := by decide +kernel
theorem dX2_findSums_24 : decode cX2_findSums 24 = .ok (.aload_n 1, 1) := by decide +kernel
theorem dX2_findSums_25 : decode cX2_findSums 25 = .ok (.getfield 105, 3) := by decide +kernel
theorem dX2_findSums_28 : decode cX2_findSums 28 = .ok (.iload_n 2, 1) := by decide +kernel
theorem dX2_findSums_29 : decode cX2_findSums 29 = .ok (.invokevirtual 98, 3) := by decide +kernel
theorem dX2_findSums_32 : decode cX2_findSums 32 = .ok (.iand, 1) := by decide +kernel
theorem dX2_findSums_33 : decode cX2_findSums 33 = .ok (.istore_n 3, 1) := by decide +kernel
theorem dX2_findSums_34 : decode cX2_findSums 34 = .ok (.aload_n 0, 1) := by decide +kernel
theorem dX2_findSums_35 : decode cX2_findSums 35 = .ok (.getfield 21, 3) := by decide +kernel
theorem dX2_findSums_38 : decode cX2_findSums 38 = .ok (.aload_n 1, 1) := by decide +kernel
theorem dX2_findSums_39 : decode cX2_findSums 39 = .ok (.getfield 105, 3) := by decide +kernel
theorem dX2_findSums_42 : decode cX2_findSums 42 = .ok (.iload_n 3, 1) := by decide +kernel
theorem dX2_findSums_43 : decode cX2_findSums 43 = .ok (.invokevirtual 120, 3) := by decide +kernel
theorem dX2_findSums_46 : decode cX2_findSums 46 = .ok (.istore_n 3, 1) := by decide +kernel
theorem dX2_findSums_47 : decode cX2_findSums 47 = .ok (.iconst 0, 1) := by decide +kernel
theorem dX2_findSums_48 : decode cX2_findSums 48 = .ok (.istore 4, 2) := by decide +kernel
theorem dX2_findSums_50 : decode cX2_findSums 50 = .ok (.iload 4, 2) := by decide +kernel
theorem dX2_findSums_52 : decode cX2_findSums 52 = .ok (.aload_n 0, 1) := by decide +kernel
theorem dX2_findSums_53 : decode cX2_findSums 53 = .ok (.getfield 21, 3) := by decide +kernel
theorem dX2_findSums_56 : decode cX2_findSums 56 = .ok (.getfield 59, 3) := by decide +kernel
theorem dX2_findSums_59 : decode cX2_findSums 59 = .ok (.if_icmp .ge 114, 3) := by decide +kernel
theorem dX2_findSums_62 : decode cX2_findSums 62 = .ok (.iload_n 3, 1) := by decide +kernel
theorem dX2_findSums_63 : decode cX2_findSums 63 = .ok (.iload 4, 2) := by decide +kernel
theorem dX2_findSums_65 : decode cX2_findSums 65 = .ok (.invokestatic 62, 3) := by decide +kernel
theorem dX2_findSums_68 : decode cX2_findSums 68 = .ok (.ifCond .eq 99, 3) := by decide +kernel
theorem dX2_findSums_71 : decode cX2_findSums 71 = .ok (.aload_n 0, 1) := by decide +kernel
theorem dX2_findSums_72 : decode cX2_findSums 72 = .ok (.getfield 21, 3) := by decide +kernel
theorem dX2_findSums_75 : decode cX2_findSums 75 = .ok (.getfield 66, 3) := by decide +kernel
theorem dX2_findSums_78 : decode cX2_findSums 78 = .ok (.iload 4, 2) := by decide +kernel
theorem dX2_findSums_80 : decode cX2_findSums 80 = .ok (.aaload, 1) := by decide +kernel
theorem dX2_findSums_81 : decode cX2_findSums 81 = .ok (.getfield 87, 3) := by decide +kernel
theorem dX2_findSums_84 : decode cX2_findSums 84 = .ok (.aload_n 1, 1) := by decide +kernel
theorem dX2_findSums_85 : decode cX2_findSums 85 = .ok (.getfield 84, 3) := by decide +kernel
theorem dX2_findSums_88 : decode cX2_findSums 88 = .ok (.laload, 1) := by decide +kernel
theorem dX2_findSums_89 : decode cX2_findSums 89 = .ok (.lstore 5, 2) := by decide +kernel
theorem dX2_findSums_91 : decode cX2_findSums 91 = .ok (.aload_n 0, 1) := by decide +kernel
theorem dX2_findSums_92 : decode cX2_findSums 92 = .ok (.getfield 21, 3) := by decide +kernel
theorem dX2_findSums_95 : decode cX2_findSums 95 = .ok (.aload_n 1, 1) := by decide +kernel
theorem dX2_findSums_96 : decode cX2_findSums 96 = .ok (.getfield 33, 3) := by decide +kernel
theorem dX2_findSums_99 : decode cX2_findSums 99 = .ok (.aload_n 1, 1) := by decide +kernel
theorem dX2_findSums_100 : decode cX2_findSums 100 = .ok (.getfield 84, 3) := by decide +kernel
theorem dX2_findSums_103 : decode cX2_findSums 103 = .ok (.lload 5, 2) := by decide +kernel
theorem dX2_findSums_105 : decode cX2_findSums 105 = .ok (.iload_n 3, 1) := by decide +kernel
theorem dX2_findSums_106 : decode cX2_findSums 106 = .ok (.invokevirtual 108, 3) := by decide +kernel
theorem dX2_findSums_109 : decode cX2_findSums 109 = .ok (.iconst 1, 1) := by decide +kernel
theorem dX2_findSums_110 : decode cX2_findSums 110 = .ok (.iload 4, 2) := by decide +kernel
theorem dX2_findSums_112 : decode cX2_findSums 112 = .ok (.ishl, 1) := by decide +kernel
theorem dX2_findSums_113 : decode cX2_findSums 113 = .ok (.iconst 1, 1) := by decide +kernel
theorem dX2_findSums_114 : decode cX2_findSums 114 = .ok (.isub, 1) := by decide +kernel
theorem dX2_findSums_115 : decode cX2_findSums 115 = .ok (.iand, 1) := by decide +kernel
theorem dX2_findSums_116 : decode cX2_findSums 116 = .ok (.istore 7, 2) := by decide +kernel
theorem dX2_findSums_118 : decode cX2_findSums 118 = .ok (.iconst 0, 1) := by decide +kernel
theorem dX2_findSums_119 : decode cX2_findSums 119 = .ok (.istore 8, 2) := by decide +kernel
theorem dX2_findSums_121 : decode cX2_findSums 121 = .ok (.iload 8, 2) := by decide +kernel
theorem dX2_findSums_123 : decode cX2_findSums 123 = .ok (.iload 7, 2) := by decide +kernel
theorem dX2_findSums_125 : decode cX2_findSums 125 = .ok (.if_icmp .gt 42, 3) := by decide +kernel
theorem dX2_findSums_128 : decode cX2_findSums 128 = .ok (.iload 8, 2) := by decide +kernel
theorem dX2_findSums_130 : decode cX2_findSums 130 = .ok (.iload 7, 2) := by decide +kernel
theorem dX2_findSums_132 : decode cX2_findSums 132 = .ok (.iconst (-1), 1) := by decide +kernel
theorem dX2_findSums_133 : decode cX2_findSums 133 = .ok (.ixor, 1) := by decide +kernel
theorem dX2_findSums_134 : decode cX2_findSums 134 = .ok (.iand, 1) := by decide +kernel
theorem dX2_findSums_135 : decode cX2_findSums 135 = .ok (.ifCond .ne 26, 3) := by decide +kernel
theorem dX2_findSums_138 : decode cX2_findSums 138 = .ok (.aload_n 0, 1) := by decide +kernel
theorem dX2_findSums_139 : decode cX2_findSums 139 = .ok (.aload_n 1, 1) := by decide +kernel
theorem dX2_findSums_140 : decode cX2_findSums 140 = .ok (.iload 4, 2) := by decide +kernel
theorem dX2_findSums_142 : decode cX2_findSums 142 = .ok (.iload 8, 2) := by decide +kernel
theorem dX2_findSums_144 : decode cX2_findSums 144 = .ok (.invokevirtual 124, 3) := by decide +kernel
theorem dX2_findSums_147 : decode cX2_findSums 147 = .ok (.ifCond .eq 14, 3) := by decide +kernel
theorem dX2_findSums_150 : decode cX2_findSums 150 = .ok (.aload_n 0, 1) := by decide +kernel
theorem dX2_findSums_151 : decode cX2_findSums 151 = .ok (.iconst 1, 1) := by decide +kernel
theorem dX2_findSums_152 : decode cX2_findSums 152 = .ok (.iload 4, 2) := by decide +kernel
theorem dX2_findSums_154 : decode cX2_findSums 154 = .ok (.ishl, 1) := by decide +kernel
theorem dX2_findSums_155 : decode cX2_findSums 155 = .ok (.iload 8, 2) := by decide +kernel
theorem dX2_findSums_157 : decode cX2_findSums 157 = .ok (.ior, 1) := by decide +kernel
theorem dX2_findSums_158 : decode cX2_findSums 158 = .ok (.invokevirtual 76, 3) := by decide +kernel
theorem dX2_findSums_161 : decode cX2_findSums 161 = .ok (.iinc 8 1, 3) := by decide +kernel
theorem dX2_findSums_164 : decode cX2_findSums 164 = .ok (.goto (-43), 3) := by decide +kernel
theorem dX2_findSums_167 : decode cX2_findSums 167 = .ok (.iinc 4 1, 3) := by decide +kernel
theorem dX2_findSums_170 : decode cX2_findSums 170 = .ok (.goto (-120), 3) := by decide +kernel
theorem dX2_findSums_173 : decode cX2_findSums 173 = .ok (.return_, 1) := by decide +kernel
theorem dX2_isLeastSum_0 : decode cX2_isLeastSum 0 = .ok (.aload_n 1, 1) := by decide +kernel
theorem dX2_isLeastSum_1 : decode cX2_isLeastSum 1 = .ok (.getfield 91, 3) := by decide +kernel
theorem dX2_isLeastSum_4 : decode cX2_isLeastSum 4 = .ok (.lstore 4, 2) := by decide +kernel
theorem dX2_isLeastSum_6 : decode cX2_isLeastSum 6 = .ok (.aload_n 0, 1) := by decide +kernel
theorem dX2_isLeastSum_7 : decode cX2_isLeastSum 7 = .ok (.getfield 21, 3) := by decide +kernel
theorem dX2_isLeastSum_10 : decode cX2_isLeastSum 10 = .ok (.getfield 66, 3) := by decide +kernel
theorem dX2_isLeastSum_13 : decode cX2_isLeastSum 13 = .ok (.iload_n 2, 1) := by decide +kernel
theorem dX2_isLeastSum_14 : decode cX2_isLeastSum 14 = .ok (.aaload, 1) := by decide +kernel
theorem dX2_isLeastSum_15 : decode cX2_isLeastSum 15 = .ok (.getfield 87, 3) := by decide +kernel
theorem dX2_isLeastSum_18 : decode cX2_isLeastSum 18 = .ok (.aload_n 1, 1) := by decide +kernel
theorem dX2_isLeastSum_19 : decode cX2_isLeastSum 19 = .ok (.getfield 105, 3) := by decide +kernel
theorem dX2_isLeastSum_22 : decode cX2_isLeastSum 22 = .ok (.laload, 1) := by decide +kernel
theorem dX2_isLeastSum_23 : decode cX2_isLeastSum 23 = .ok (.lstore 6, 2) := by decide +kernel
theorem dX2_isLeastSum_25 : decode cX2_isLeastSum 25 = .ok (.iconst 0, 1) := by decide +kernel
theorem dX2_isLeastSum_26 : decode cX2_isLeastSum 26 = .ok (.istore 8, 2) := by decide +kernel
theorem dX2_isLeastSum_28 : decode cX2_isLeastSum 28 = .ok (.iload 8, 2) := by decide +kernel
theorem dX2_isLeastSum_30 : decode cX2_isLeastSum 30 = .ok (.iload_n 2, 1) := by decide +kernel
theorem dX2_isLeastSum_31 : decode cX2_isLeastSum 31 = .ok (.if_icmp .ge 89, 3) := by decide +kernel
theorem dX2_isLeastSum_34 : decode cX2_isLeastSum 34 = .ok (.iload_n 3, 1) := by decide +kernel
theorem dX2_isLeastSum_35 : decode cX2_isLeastSum 35 = .ok (.iload 8, 2) := by decide +kernel
theorem dX2_isLeastSum_37 : decode cX2_isLeastSum 37 = .ok (.invokestatic 62, 3) := by decide +kernel
theorem dX2_isLeastSum_40 : decode cX2_isLeastSum 40 = .ok (.ifCond .eq 74, 3) := by decide +kernel
theorem dX2_isLeastSum_43 : decode cX2_isLeastSum 43 = .ok (.aload_n 0, 1) := by decide +kernel
theorem dX2_isLeastSum_44 : decode cX2_isLeastSum 44 = .ok (.getfield 21, 3) := by decide +kernel
theorem dX2_isLeastSum_47 : decode cX2_isLeastSum 47 = .ok (.getfield 66, 3) := by decide +kernel
theorem dX2_isLeastSum_50 : decode cX2_isLeastSum 50 = .ok (.iload 8, 2) := by decide +kernel
theorem dX2_isLeastSum_52 : decode cX2_isLeastSum 52 = .ok (.aaload, 1) := by decide +kernel
theorem dX2_isLeastSum_53 : decode cX2_isLeastSum 53 = .ok (.getfield 87, 3) := by decide +kernel
theorem dX2_isLeastSum_56 : decode cX2_isLeastSum 56 = .ok (.aload_n 1, 1) := by decide +kernel
theorem dX2_isLeastSum_57 : decode cX2_isLeastSum 57 = .ok (.getfield 105, 3) := by decide +kernel
theorem dX2_isLeastSum_60 : decode cX2_isLeastSum 60 = .ok (.laload, 1) := by decide +kernel
theorem dX2_isLeastSum_61 : decode cX2_isLeastSum 61 = .ok (.lstore 9, 2) := by decide +kernel
theorem dX2_isLeastSum_63 : decode cX2_isLeastSum 63 = .ok (.lload 9, 2) := by decide +kernel
theorem dX2_isLeastSum_65 : decode cX2_isLeastSum 65 = .ok (.lload 6, 2) := by decide +kernel
theorem dX2_isLeastSum_67 : decode cX2_isLeastSum 67 = .ok (.lcmp, 1) := by decide +kernel
theorem dX2_isLeastSum_68 : decode cX2_isLeastSum 68 = .ok (.ifCond .le 8, 3) := by decide +kernel
theorem dX2_isLeastSum_71 : decode cX2_isLeastSum 71 = .ok (.lload 9, 2) := by decide +kernel
theorem dX2_isLeastSum_73 : decode cX2_isLeastSum 73 = .ok (.goto 5, 3) := by decide +kernel
theorem dX2_isLeastSum_76 : decode cX2_isLeastSum 76 = .ok (.lload 6, 2) := by decide +kernel
theorem dX2_isLeastSum_78 : decode cX2_isLeastSum 78 = .ok (.lstore 11, 2) := by decide +kernel
theorem dX2_isLeastSum_80 : decode cX2_isLeastSum 80 = .ok (.lload 9, 2) := by decide +kernel
theorem dX2_isLeastSum_82 : decode cX2_isLeastSum 82 = .ok (.lload 6, 2) := by decide +kernel
theorem dX2_isLeastSum_84 : decode cX2_isLeastSum 84 = .ok (.lcmp, 1) := by decide +kernel
theorem dX2_isLeastSum_85 : decode cX2_isLeastSum 85 = .ok (.ifCond .le 8, 3) := by decide +kernel
theorem dX2_isLeastSum_88 : decode cX2_isLeastSum 88 = .ok (.lload 6, 2) := by decide +kernel
theorem dX2_isLeastSum_90 : decode cX2_isLeastSum 90 = .ok (.goto 5, 3) := by decide +kernel
theorem dX2_isLeastSum_93 : decode cX2_isLeastSum 93 = .ok (.lload 9, 2) := by decide +kernel
theorem dX2_isLeastSum_95 : decode cX2_isLeastSum 95 = .ok (.lstore 6, 2) := by decide +kernel
theorem dX2_isLeastSum_97 : decode cX2_isLeastSum 97 = .ok (.lload 11, 2) := by decide +kernel
theorem dX2_isLeastSum_99 : decode cX2_isLeastSum 99 = .ok (.lload 4, 2) := by decide +kernel
theorem dX2_isLeastSum_101 : decode cX2_isLeastSum 101 = .ok (.lcmp, 1) := by decide +kernel
theorem dX2_isLeastSum_102 : decode cX2_isLeastSum 102 = .ok (.ifCond .le 5, 3) := by decide +kernel
theorem dX2_isLeastSum_105 : decode cX2_isLeastSum 105 = .ok (.iconst 0, 1) := by decide +kernel
theorem dX2_isLeastSum_106 : decode cX2_isLeastSum 106 = .ok (.ireturn, 1) := by decide +kernel
theorem dX2_isLeastSum_107 : decode cX2_isLeastSum 107 = .ok (.lload 4, 2) := by decide +kernel
theorem dX2_isLeastSum_109 : decode cX2_isLeastSum 109 = .ok (.lload 11, 2) := by decide +kernel
theorem dX2_isLeastSum_111 : decode cX2_isLeastSum 111 = .ok (.lsub, 1) := by decide +kernel
theorem dX2_isLeastSum_112 : decode cX2_isLeastSum 112 = .ok (.lstore 4, 2) := by decide +kernel
theorem dX2_isLeastSum_114 : decode cX2_isLeastSum 114 = .ok (.iinc 8 1, 3) := by decide +kernel
theorem dX2_isLeastSum_117 : decode cX2_isLeastSum 117 = .ok (.goto (-89), 3) := by decide +kernel
theorem dX2_isLeastSum_120 : decode cX2_isLeastSum 120 = .ok (.lload 6, 2) := by decide +kernel
theorem dX2_isLeastSum_122 : decode cX2_isLeastSum 122 = .ok (.lload 4, 2) := by decide +kernel
theorem dX2_isLeastSum_124 : decode cX2_isLeastSum 124 = .ok (.lcmp, 1) := by decide +kernel
theorem dX2_isLeastSum_125 : decode cX2_isLeastSum 125 = .ok (.ifCond .le 7, 3) := by decide +kernel
theorem dX2_isLeastSum_128 : decode cX2_isLeastSum 128 = .ok (.iconst 1, 1) := by decide +kernel
theorem dX2_isLeastSum_129 : decode cX2_isLeastSum 129 = .ok (.goto 4, 3) := by decide +kernel
theorem dX2_isLeastSum_132 : decode cX2_isLeastSum 132 = .ok (.iconst 0, 1) := by decide +kernel
theorem dX2_isLeastSum_133 : decode cX2_isLeastSum 133 = .ok (.ireturn, 1) := by decide +kernel
theorem dX3_init_0 : decode cX3_init 0 = .ok (.aload_n 0, 1) := by decide +kernel
theorem dX3_init_1 : decode cX3_init 1 = .ok (.invokespecial 3, 3) := by decide +kernel
theorem dX3_init_4 : decode cX3_init 4 = .ok (.aload_n 0, 1) := by decide +kernel
theorem dX3_init_5 : decode cX3_init 5 = .ok (.sipush 4096, 3) := by decide +kernel
theorem dX3_init_8 : decode cX3_init 8 = .ok (.newarray .int, 2) := by decide +kernel
theorem dX3_init_10 : decode cX3_init 10 = .ok (.putfield 9, 3) := by decide +kernel
theorem dX3_init_13 : decode cX3_init 13 = .ok (.aload_n 0, 1) := by decide +kernel
theorem dX3_init_14 : decode cX3_init 14 = .ok (.sipush 4096, 3) := by decide +kernel
theorem dX3_init_17 : decode cX3_init 17 = .ok (.newarray .boolean, 2) := by decide +kernel
theorem dX3_init_19 : decode cX3_init 19 = .ok (.putfield 15, 3) := by decide +kernel
theorem dX3_init_22 : decode cX3_init 22 = .ok (.aload_n 0, 1) := by decide +kernel
theorem dX3_init_23 : decode cX3_init 23 = .ok (.sipush 4096, 3) := by decide +kernel
theorem dX3_init_26 : decode cX3_init 26 = .ok (.newarray .boolean, 2) := by decide +kernel
theorem dX3_init_28 : decode cX3_init 28 = .ok (.putfield 19, 3) := by decide +kernel
theorem dX3_init_31 : decode cX3_init 31 = .ok (.aload_n 0, 1) := by decide +kernel
theorem dX3_init_32 : decode cX3_init 32 = .ok (.aload_n 1, 1) := by decide +kernel
theorem dX3_init_33 : decode cX3_init 33 = .ok (.putfield 22, 3) := by decide +kernel
theorem dX3_init_36 : decode cX3_init 36 = .ok (.aload_n 0, 1) := by decide +kernel
theorem dX3_init_37 : decode cX3_init 37 = .ok (.aload_n 2, 1) := by decide +kernel
theorem dX3_init_38 : decode cX3_init 38 = .ok (.putfield 26, 3) := by decide +kernel
theorem dX3_init_41 : decode cX3_init 41 = .ok (.return_, 1) := by decide +kernel
theorem dX3_find_0 : decode cX3_find 0 = .ok (.aload_n 0, 1) := by decide +kernel
theorem dX3_find_1 : decode cX3_find 1 = .ok (.aload_n 0, 1) := by decide +kernel
theorem dX3_find_2 : decode cX3_find 2 = .ok (.getfield 22, 3) := by decide +kernel
theorem dX3_find_5 : decode cX3_find 5 = .ok (.invokevirtual 30, 3) := by decide +kernel
theorem dX3_find_8 : decode cX3_find 8 = .ok (.putfield 36, 3) := by decide +kernel
theorem dX3_find_11 : decode cX3_find 11 = .ok (.aload_n 0, 1) := by decide +kernel
theorem dX3_find_12 : decode cX3_find 12 = .ok (.invokevirtual 39, 3) := by decide +kernel
theorem dX3_find_15 : decode cX3_find 15 = .ok (.aload_n 0, 1) := by decide +kernel
theorem dX3_find_16 : decode cX3_find 16 = .ok (.iconst 0, 1) := by decide +kernel
theorem dX3_find_17 : decode cX3_find 17 = .ok (.putfield 42, 3) := by decide +kernel
theorem dX3_find_20 : decode cX3_find 20 = .ok (.iconst 0, 1) := by decide +kernel
theorem dX3_find_21 : decode cX3_find 21 = .ok (.istore_n 1, 1) := by decide +kernel
theorem dX3_find_22 : decode cX3_find 22 = .ok (.iload_n 1, 1) := by decide +kernel
theorem dX3_find_23 : decode cX3_find 23 = .ok (.aload_n 0, 1) := by decide +kernel
theorem dX3_find_24 : decode cX3_find 24 = .ok (.getfield 36, 3) := by decide +kernel
theorem dX3_find_27 : decode cX3_find 27 = .ok (.if_icmp .gt 93, 3) := by decide +kernel
theorem dX3_find_30 : decode cX3_find 30 = .ok (.iload_n 1, 1) := by decide +kernel
theorem dX3_find_31 : decode cX3_find 31 = .ok (.aload_n 0, 1) := by decide +kernel
theorem dX3_find_32 : decode cX3_find 32 = .ok (.getfield 36, 3) := by decide +kernel
theorem dX3_find_35 : decode cX3_find 35 = .ok (.iconst (-1), 1) := by decide +kernel
theorem dX3_find_36 : decode cX3_find 36 = .ok (.ixor, 1) := by decide +kernel
theorem dX3_find_37 : decode cX3_find 37 = .ok (.iand, 1) := by decide +kernel
theorem dX3_find_38 : decode cX3_find 38 = .ok (.ifCond .ne 76, 3) := by decide +kernel
theorem dX3_find_41 : decode cX3_find 41 = .ok (.aload_n 0, 1) := by decide +kernel
theorem dX3_find_42 : decode cX3_find 42 = .ok (.iload_n 1, 1) := by decide +kernel
theorem dX3_find_43 : decode cX3_find 43 = .ok (.invokevirtual 45, 3) := by decide +kernel
theorem dX3_find_46 : decode cX3_find 46 = .ok (.istore_n 2, 1) := by decide +kernel
theorem dX3_find_47 : decode cX3_find 47 = .ok (.aload_n 0, 1) := by decide +kernel
theorem dX3_find_48 : decode cX3_find 48 = .ok (.getfield 15, 3) := by decide +kernel
theorem dX3_find_51 : decode cX3_find 51 = .ok (.aload_n 0, 1) := by decide +kernel
theorem dX3_find_52 : decode cX3_find 52 = .ok (.getfield 36, 3) := by decide +kernel
theorem dX3_find_55 : decode cX3_find 55 = .ok (.iload_n 1, 1) := by decide +kernel
theorem dX3_find_56 : decode cX3_find 56 = .ok (.ixor, 1) := by decide +kernel
theorem dX3_find_57 : decode cX3_find 57 = .ok (.baload, 1) := by decide +kernel
theorem dX3_find_58 : decode cX3_find 58 = .ok (.ifCond .ne 7, 3) := by decide +kernel
theorem dX3_find_61 : decode cX3_find 61 = .ok (.iconst 1, 1) := by decide +kernel
theorem dX3_find_62 : decode cX3_find 62 = .ok (.goto 4, 3) := by decide +kernel
theorem dX3_find_65 : decode cX3_find 65 = .ok (.iconst 0, 1) := by decide +kernel
theorem dX3_find_66 : decode cX3_find 66 = .ok (.istore_n 3, 1) := by decide +kernel
theorem dX3_find_67 : decode cX3_find 67 = .ok (.aload_n 0, 1) := by decide +kernel
theorem dX3_find_68 : decode cX3_find 68 = .ok (.getfield 19, 3) := by decide +kernel
theorem dX3_find_71 : decode cX3_find 71 = .ok (.iload_n 1, 1) := by decide +kernel
theorem dX3_find_72 : decode cX3_find 72 = .ok (.iload_n 2, 1) := by decide +kernel
theorem dX3_find_73 : decode cX3_find 73 = .ok (.ifCond .ne 7, 3) := by decide +kernel
theorem dX3_find_76 : decode cX3_find 76 = .ok (.iload_n 3, 1) := by decide +kernel
theorem dX3_find_77 : decode cX3_find 77 = .ok (.ifCond .eq 7, 3) := by decide +kernel
theorem dX3_find_80 : decode cX3_find 80 = .ok (.iconst 1, 1) := by decide +kernel
theorem dX3_find_81 : decode cX3_find 81 = .ok (.goto 4, 3) := by decide +kernel
theorem dX3_find_84 : decode cX3_find 84 = .ok (.iconst 0, 1) := by decide +kernel
theorem dX3_find_85 : decode cX3_find 85 = .ok (.bastore, 1) := by decide +kernel
theorem dX3_find_86 : decode cX3_find 86 = .ok (.iload_n 3, 1) := by decide +kernel
theorem dX3_find_87 : decode cX3_find 87 = .ok (.ifCond .eq 27, 3) := by decide +kernel
theorem dX3_find_90 : decode cX3_find 90 = .ok (.iload_n 2, 1) := by decide +kernel
theorem dX3_find_91 : decode cX3_find 91 = .ok (.ifCond .ne 23, 3) := by decide +kernel
theorem dX3_find_94 : decode cX3_find 94 = .ok (.aload_n 0, 1) := by decide +kernel
theorem dX3_find_95 : decode cX3_find 95 = .ok (.getfield 9, 3) := by decide +kernel
theorem dX3_find_98 : decode cX3_find 98 = .ok (.aload_n 0, 1) := by decide +kernel
theorem dX3_find_99 : decode cX3_find 99 = .ok (.getfield 42, 3) := by decide +kernel
theorem dX3_find_102 : decode cX3_find 102 = .ok (.iload_n 1, 1) := by decide +kernel
theorem dX3_find_103 : decode cX3_find 103 = .ok (.iastore, 1) := by decide +kernel
theorem dX3_find_104 : decode cX3_find 104 = .ok (.aload_n 0, 1) := by decide +kernel
theorem dX3_find_105 : decode cX3_find 105 = .ok (.dup, 1) := by decide +kernel
theorem dX3_find_106 : decode cX3_find 106 = .ok (.getfield 42, 3) := by decide +kernel
theorem dX3_find_109 : decode cX3_find 109 = .ok (.iconst 1, 1) := by decide +kernel
theorem dX3_find_110 : decode cX3_find 110 = .ok (.iadd, 1) := by decide +kernel
theorem dX3_find_111 : decode cX3_find 111 = .ok (.putfield 42, 3) := by decide +kernel
theorem dX3_find_114 : decode cX3_find 114 = .ok (.iinc 1 1, 3) := by decide +kernel
theorem dX3_find_117 : decode cX3_find 117 = .ok (.goto (-95), 3) := by decide +kernel
theorem dX3_find_120 : decode cX3_find 120 = .ok (.return_, 1) := by decide +kernel
theorem dX3_isMoreThanOne_0 : decode cX3_isMoreThanOne 0 = .ok (.iconst 0, 1) := by decide +kernel
theorem dX3_isMoreThanOne_1 : decode cX3_isMoreThanOne 1 = .ok (.istore_n 2, 1) := by decide +kernel
theorem dX3_isMoreThanOne_2 : decode cX3_isMoreThanOne 2 = .ok (.iload_n 2, 1) := by decide +kernel
theorem dX3_isMoreThanOne_3 : decode cX3_isMoreThanOne 3 = .ok (.aload_n 0, 1) := by decide +kernel
theorem dX3_isMoreThanOne_4 : decode cX3_isMoreThanOne 4 = .ok (.getfield 22, 3) := by decide +kernel
theorem dX3_isMoreThanOne_7 : decode cX3_isMoreThanOne 7 = .ok (.getfield 49, 3) := by decide +kernel
theorem dX3_isMoreThanOne_10 : decode cX3_isMoreThanOne 10 = .ok (.if_icmp .ge 32, 3) := by decide +kernel
theorem dX3_isMoreThanOne_13 : decode cX3_isMoreThanOne 13 = .ok (.iload_n 1, 1) := by decide +kernel
theorem dX3_isMoreThanOne_14 : decode cX3_isMoreThanOne 14 = .ok (.iload_n 2, 1) := by decide +kernel
theorem dX3_isMoreThanOne_15 : decode cX3_isMoreThanOne 15 = .ok (.invokestatic 50, 3) := by decide +kernel
theorem dX3_isMoreThanOne_18 : decode cX3_isMoreThanOne 18 = .ok (.ifCond .eq 18, 3) := by decide +kernel
theorem dX3_isMoreThanOne_21 : decode cX3_isMoreThanOne 21 = .ok (.aload_n 0, 1) := by decide +kernel
theorem dX3_isMoreThanOne_22 : decode cX3_isMoreThanOne 22 = .ok (.getfield 19, 3) := by decide +kernel
theorem dX3_isMoreThanOne_25 : decode cX3_isMoreThanOne 25 = .ok (.iload_n 1, 1) := by decide +kernel
theorem dX3_isMoreThanOne_26 : decode cX3_isMoreThanOne 26 = .ok (.iconst 1, 1) := by decide +kernel
theorem dX3_isMoreThanOne_27 : decode cX3_isMoreThanOne 27 = .ok (.iload_n 2, 1) := by decide +kernel
theorem dX3_isMoreThanOne_28 : decode cX3_isMoreThanOne 28 = .ok (.ishl, 1) := by decide +kernel
theorem dX3_isMoreThanOne_29 : decode cX3_isMoreThanOne 29 = .ok (.ixor, 1) := by decide +kernel
theorem dX3_isMoreThanOne_30 : decode cX3_isMoreThanOne 30 = .ok (.baload, 1) := by decide +kernel
theorem dX3_isMoreThanOne_31 : decode cX3_isMoreThanOne 31 = .ok (.ifCond .eq 5, 3) := by decide +kernel
theorem dX3_isMoreThanOne_34 : decode cX3_isMoreThanOne 34 = .ok (.iconst 1, 1) := by decide +kernel
theorem dX3_isMoreThanOne_35 : decode cX3_isMoreThanOne 35 = .ok (.ireturn, 1) := by decide +kernel
theorem dX3_isMoreThanOne_36 : decode cX3_isMoreThanOne 36 = .ok (.iinc 2 1, 3) := by decide +kernel
theorem dX3_isMoreThanOne_39 : decode cX3_isMoreThanOne 39 = .ok (.goto (-37), 3) := by decide +kernel
theorem dX3_isMoreThanOne_42 : decode cX3_isMoreThanOne 42 = .ok (.iconst 0, 1) := by decide +kernel
theorem dX3_isMoreThanOne_43 : decode cX3_isMoreThanOne 43 = .ok (.ireturn, 1) := by decide +kernel
theorem dX3_findBroken_0 : decode cX3_findBroken 0 = .ok (.aload_n 0, 1) := by decide +kernel
theorem dX3_findBroken_1 : decode cX3_findBroken 1 = .ok (.getfield 15, 3) := by decide +kernel
theorem dX3_findBroken_4 : decode cX3_findBroken 4 = .ok (.aload_n 0, 1) := by decide +kernel
theorem dX3_findBroken_5 : decode cX3_findBroken 5 = .ok (.getfield 22, 3) := by decide +kernel
theorem dX3_findBroken_8 : decode cX3_findBroken 8 = .ok (.getfield 49, 3) := by decide +kernel
theorem dX3_findBroken_11 : decode cX3_findBroken 11 = .ok (.invokestatic 54, 3) := by decide +kernel
theorem dX3_findBroken_14 : decode cX3_findBroken 14 = .ok (.iconst 0, 1) := by decide +kernel
theorem dX3_findBroken_15 : decode cX3_findBroken 15 = .ok (.istore_n 1, 1) := by decide +kernel
theorem dX3_findBroken_16 : decode cX3_findBroken 16 = .ok (.iload_n 1, 1) := by decide +kernel
theorem dX3_findBroken_17 : decode cX3_findBroken 17 = .ok (.aload_n 0, 1) := by decide +kernel
theorem dX3_findBroken_18 : decode cX3_findBroken 18 = .ok (.getfield 26, 3) := by decide +kernel
theorem dX3_findBroken_21 : decode cX3_findBroken 21 = .ok (.getfield 58, 3) := by decide +kernel
theorem dX3_findBroken_24 : decode cX3_findBroken 24 = .ok (.if_icmp .ge 94, 3) := by decide +kernel
theorem dX3_findBroken_27 : decode cX3_findBroken 27 = .ok (.aload_n 0, 1) := by decide +kernel
theorem dX3_findBroken_28 : decode cX3_findBroken 28 = .ok (.getfield 26, 3) := by decide +kernel
theorem dX3_findBroken_31 : decode cX3_findBroken 31 = .ok (.getfield 61, 3) := by decide +kernel
theorem dX3_findBroken_34 : decode cX3_findBroken 34 = .ok (.iload_n 1, 1) := by decide +kernel
theorem dX3_findBroken_35 : decode cX3_findBroken 35 = .ok (.aaload, 1) := by decide +kernel
theorem dX3_findBroken_36 : decode cX3_findBroken 36 = .ok (.getfield 65, 3) := by decide +kernel
theorem dX3_findBroken_39 : decode cX3_findBroken 39 = .ok (.ifCond .eq 73, 3) := by decide +kernel
theorem dX3_findBroken_42 : decode cX3_findBroken 42 = .ok (.aload_n 0, 1) := by decide +kernel
theorem dX3_findBroken_43 : decode cX3_findBroken 43 = .ok (.getfield 26, 3) := by decide +kernel
theorem dX3_findBroken_46 : decode cX3_findBroken 46 = .ok (.getfield 61, 3) := by decide +kernel
theorem dX3_findBroken_49 : decode cX3_findBroken 49 = .ok (.iload_n 1, 1) := by decide +kernel
theorem dX3_findBroken_50 : decode cX3_findBroken 50 = .ok (.aaload, 1) := by decide +kernel
theorem dX3_findBroken_51 : decode cX3_findBroken 51 = .ok (.getfield 71, 3) := by decide +kernel
theorem dX3_findBroken_54 : decode cX3_findBroken 54 = .ok (.iconst 5, 1) := by decide +kernel
theorem dX3_findBroken_55 : decode cX3_findBroken 55 = .ok (.if_icmp .eq 57, 3) := by decide +kernel
theorem dX3_findBroken_58 : decode cX3_findBroken 58 = .ok (.aload_n 0, 1) := by decide +kernel
theorem dX3_findBroken_59 : decode cX3_findBroken 59 = .ok (.getfield 26, 3) := by decide +kernel
theorem dX3_findBroken_62 : decode cX3_findBroken 62 = .ok (.aload_n 0, 1) := by decide +kernel
theorem dX3_findBroken_63 : decode cX3_findBroken 63 = .ok (.getfield 26, 3) := by decide +kernel
theorem dX3_findBroken_66 : decode cX3_findBroken 66 = .ok (.getfield 61, 3) := by decide +kernel
theorem dX3_findBroken_69 : decode cX3_findBroken 69 = .ok (.iload_n 1, 1) := by decide +kernel
theorem dX3_findBroken_70 : decode cX3_findBroken 70 = .ok (.aaload, 1) := by decide +kernel
theorem dX3_findBroken_71 : decode cX3_findBroken 71 = .ok (.aload_n 0, 1) := by decide +kernel
theorem dX3_findBroken_72 : decode cX3_findBroken 72 = .ok (.getfield 36, 3) := by decide +kernel
theorem dX3_findBroken_75 : decode cX3_findBroken 75 = .ok (.invokevirtual 74, 3) := by decide +kernel
theorem dX3_findBroken_78 : decode cX3_findBroken 78 = .ok (.iconst 0, 1) := by decide +kernel
theorem dX3_findBroken_79 : decode cX3_findBroken 79 = .ok (.istore_n 2, 1) := by decide +kernel
theorem dX3_findBroken_80 : decode cX3_findBroken 80 = .ok (.iload_n 2, 1) := by decide +kernel
theorem dX3_findBroken_81 : decode cX3_findBroken 81 = .ok (.aload_n 0, 1) := by decide +kernel
theorem dX3_findBroken_82 : decode cX3_findBroken 82 = .ok (.getfield 26, 3) := by decide +kernel
theorem dX3_findBroken_85 : decode cX3_findBroken 85 = .ok (.getfield 78, 3) := by decide +kernel
theorem dX3_findBroken_88 : decode cX3_findBroken 88 = .ok (.if_icmp .ge 24, 3) := by decide +kernel
theorem dX3_findBroken_91 : decode cX3_findBroken 91 = .ok (.aload_n 0, 1) := by decide +kernel
theorem dX3_findBroken_92 : decode cX3_findBroken 92 = .ok (.getfield 15, 3) := by decide +kernel
theorem dX3_findBroken_95 : decode cX3_findBroken 95 = .ok (.aload_n 0, 1) := by decide +kernel
theorem dX3_findBroken_96 : decode cX3_findBroken 96 = .ok (.getfield 26, 3) := by decide +kernel
theorem dX3_findBroken_99 : decode cX3_findBroken 99 = .ok (.getfield 81, 3) := by decide +kernel
theorem dX3_findBroken_102 : decode cX3_findBroken 102 = .ok (.iload_n 2, 1) := by decide +kernel
theorem dX3_findBroken_103 : decode cX3_findBroken 103 = .ok (.iaload, 1) := by decide +kernel
theorem dX3_findBroken_104 : decode cX3_findBroken 104 = .ok (.iconst 1, 1) := by decide +kernel
theorem dX3_findBroken_105 : decode cX3_findBroken 105 = .ok (.bastore, 1) := by decide +kernel
theorem dX3_findBroken_106 : decode cX3_findBroken 106 = .ok (.iinc 2 1, 3) := by decide +kernel
theorem dX3_findBroken_109 : decode cX3_findBroken 109 = .ok (.goto (-29), 3) := by decide +kernel
theorem dX3_findBroken_112 : decode cX3_findBroken 112 = .ok (.iinc 1 1, 3) := by decide +kernel
theorem dX3_findBroken_115 : decode cX3_findBroken 115 = .ok (.goto (-99), 3) := by decide +kernel
theorem dX3_findBroken_118 : decode cX3_findBroken 118 = .ok (.aload_n 0, 1) := by decide +kernel
theorem dX3_findBroken_119 : decode cX3_findBroken 119 = .ok (.getfield 15, 3) := by decide +kernel
theorem dX3_findBroken_122 : decode cX3_findBroken 122 = .ok (.aload_n 0, 1) := by decide +kernel
theorem dX3_findBroken_123 : decode cX3_findBroken 123 = .ok (.getfield 22, 3) := by decide +kernel
theorem dX3_findBroken_126 : decode cX3_findBroken 126 = .ok (.getfield 49, 3) := by decide +kernel
theorem dX3_findBroken_129 : decode cX3_findBroken 129 = .ok (.invokestatic 84, 3) := by decide +kernel
theorem dX3_findBroken_132 : decode cX3_findBroken 132 = .ok (.iconst 0, 1) := by decide +kernel
theorem dX3_findBroken_133 : decode cX3_findBroken 133 = .ok (.istore_n 1, 1) := by decide +kernel
theorem dX3_findBroken_134 : decode cX3_findBroken 134 = .ok (.iload_n 1, 1) := by decide +kernel
theorem dX3_findBroken_135 : decode cX3_findBroken 135 = .ok (.aload_n 0, 1) := by decide +kernel
theorem dX3_findBroken_136 : decode cX3_findBroken 136 = .ok (.getfield 26, 3) := by decide +kernel
theorem dX3_findBroken_139 : decode cX3_findBroken 139 = .ok (.getfield 58, 3) := by decide +kernel
theorem dX3_findBroken_142 : decode cX3_findBroken 142 = .ok (.if_icmp .ge 53, 3) := by decide +kernel
theorem dX3_findBroken_145 : decode cX3_findBroken 145 = .ok (.aload_n 0, 1) := by decide +kernel
theorem dX3_findBroken_146 : decode cX3_findBroken 146 = .ok (.getfield 26, 3) := by decide +kernel
theorem dX3_findBroken_149 : decode cX3_findBroken 149 = .ok (.getfield 61, 3) := by decide +kernel
theorem dX3_findBroken_152 : decode cX3_findBroken 152 = .ok (.iload_n 1, 1) := by decide +kernel
theorem dX3_findBroken_153 : decode cX3_findBroken 153 = .ok (.aaload, 1) := by decide +kernel
theorem dX3_findBroken_154 : decode cX3_findBroken 154 = .ok (.getfield 65, 3) := by decide +kernel
theorem dX3_findBroken_157 : decode cX3_findBroken 157 = .ok (.ifCond .eq 32, 3) := by decide +kernel
theorem dX3_findBroken_160 : decode cX3_findBroken 160 = .ok (.aload_n 0, 1) := by decide +kernel
theorem dX3_findBroken_161 : decode cX3_findBroken 161 = .ok (.getfield 26, 3) := by decide +kernel
theorem dX3_findBroken_164 : decode cX3_findBroken 164 = .ok (.getfield 61, 3) := by decide +kernel
theorem dX3_findBroken_167 : decode cX3_findBroken 167 = .ok (.iload_n 1, 1) := by decide +kernel
theorem dX3_findBroken_168 : decode cX3_findBroken 168 = .ok (.aaload, 1) := by decide +kernel
theorem dX3_findBroken_169 : decode cX3_findBroken 169 = .ok (.getfield 71, 3) := by decide +kernel
theorem dX3_findBroken_172 : decode cX3_findBroken 172 = .ok (.iconst 5, 1) := by decide +kernel
theorem dX3_findBroken_173 : decode cX3_findBroken 173 = .ok (.if_icmp .ne 16, 3) := by decide +kernel
theorem dX3_findBroken_176 : decode cX3_findBroken 176 = .ok (.aload_n 0, 1) := by decide +kernel
theorem dX3_findBroken_177 : decode cX3_findBroken 177 = .ok (.aload_n 0, 1) := by decide +kernel
theorem dX3_findBroken_178 : decode cX3_findBroken 178 = .ok (.getfield 26, 3) := by decide +kernel
theorem dX3_findBroken_181 : decode cX3_findBroken 181 = .ok (.getfield 61, 3) := by decide +kernel
theorem dX3_findBroken_184 : decode cX3_findBroken 184 = .ok (.iload_n 1, 1) := by decide +kernel
theorem dX3_findBroken_185 : decode cX3_findBroken 185 = .ok (.aaload, 1) := by decide +kernel
theorem dX3_findBroken_186 : decode cX3_findBroken 186 = .ok (.invokevirtual 87, 3) := by decide +kernel
theorem dX3_findBroken_189 : decode cX3_findBroken 189 = .ok (.iinc 1 1, 3) := by decide +kernel
theorem dX3_findBroken_192 : decode cX3_findBroken 192 = .ok (.goto (-58), 3) := by decide +kernel
theorem dX3_findBroken_195 : decode cX3_findBroken 195 = .ok (.return_, 1) := by decide +kernel
theorem dX3_breakAmong_0 : decode cX3_breakAmong 0 = .ok (.aload_n 0, 1) := by decide +kernel
theorem dX3_breakAmong_1 : decode cX3_breakAmong 1 = .ok (.getfield 22, 3) := by decide +kernel
theorem dX3_breakAmong_4 : decode cX3_breakAmong 4 = .ok (.aload_n 1, 1) := by decide +kernel
theorem dX3_breakAmong_5 : decode cX3_breakAmong 5 = .ok (.getfield 91, 3) := by decide +kernel
theorem dX3_breakAmong_8 : decode cX3_breakAmong 8 = .ok (.aload_n 1, 1) := by decide +kernel
theorem dX3_breakAmong_9 : decode cX3_breakAmong 9 = .ok (.getfield 94, 3) := by decide +kernel
theorem dX3_breakAmong_12 : decode cX3_breakAmong 12 = .ok (.aload_n 0, 1) := by decide +kernel
theorem dX3_breakAmong_13 : decode cX3_breakAmong 13 = .ok (.getfield 36, 3) := by decide +kernel
theorem dX3_breakAmong_16 : decode cX3_breakAmong 16 = .ok (.invokevirtual 97, 3) := by decide +kernel
theorem dX3_breakAmong_19 : decode cX3_breakAmong 19 = .ok (.istore_n 2, 1) := by decide +kernel
theorem dX3_breakAmong_20 : decode cX3_breakAmong 20 = .ok (.iconst 0, 1) := by decide +kernel
theorem dX3_breakAmong_21 : decode cX3_breakAmong 21 = .ok (.istore_n 3, 1) := by decide +kernel
theorem dX3_breakAmong_22 : decode cX3_breakAmong 22 = .ok (.iload_n 3, 1) := by decide +kernel
theorem dX3_breakAmong_23 : decode cX3_breakAmong 23 = .ok (.aload_n 0, 1) := by decide +kernel
theorem dX3_breakAmong_24 : decode cX3_breakAmong 24 = .ok (.getfield 22, 3) := by decide +kernel
theorem dX3_breakAmong_27 : decode cX3_breakAmong 27 = .ok (.getfield 49, 3) := by decide +kernel
theorem dX3_breakAmong_30 : decode cX3_breakAmong 30 = .ok (.if_icmp .ge 62, 3) := by decide +kernel
theorem dX3_breakAmong_33 : decode cX3_breakAmong 33 = .ok (.iload_n 2, 1) := by decide +kernel
theorem dX3_breakAmong_34 : decode cX3_breakAmong 34 = .ok (.iload_n 3, 1) := by decide +kernel
theorem dX3_breakAmong_35 : decode cX3_breakAmong 35 = .ok (.invokestatic 50, 3) := by decide +kernel
theorem dX3_breakAmong_38 : decode cX3_breakAmong 38 = .ok (.ifCond .eq 48, 3) := by decide +kernel
theorem dX3_breakAmong_41 : decode cX3_breakAmong 41 = .ok (.aload_n 0, 1) := by decide +kernel
theorem dX3_breakAmong_42 : decode cX3_breakAmong 42 = .ok (.getfield 22, 3) := by decide +kernel
theorem dX3_breakAmong_45 : decode cX3_breakAmong 45 = .ok (.getfield 101, 3) := by decide +kernel
theorem dX3_breakAmong_48 : decode cX3_breakAmong 48 = .ok (.iload_n 3, 1) := by decide +kernel
theorem dX3_breakAmong_49 : decode cX3_breakAmong 49 = .ok (.aaload, 1) := by decide +kernel
theorem dX3_breakAmong_50 : decode cX3_breakAmong 50 = .ok (.getfield 104, 3) := by decide +kernel
theorem dX3_breakAmong_53 : decode cX3_breakAmong 53 = .ok (.aload_n 1, 1) := by decide +kernel
theorem dX3_breakAmong_54 : decode cX3_breakAmong 54 = .ok (.getfield 94, 3) := by decide +kernel
theorem dX3_breakAmong_57 : decode cX3_breakAmong 57 = .ok (.laload, 1) := by decide +kernel
theorem dX3_breakAmong_58 : decode cX3_breakAmong 58 = .ok (.lstore 4, 2) := by decide +kernel
theorem dX3_breakAmong_60 : decode cX3_breakAmong 60 = .ok (.aload_n 0, 1) := by decide +kernel
theorem dX3_breakAmong_61 : decode cX3_breakAmong 61 = .ok (.iload_n 3, 1) := by decide +kernel
theorem dX3_breakAmong_62 : decode cX3_breakAmong 62 = .ok (.aload_n 0, 1) := by decide +kernel
theorem dX3_breakAmong_63 : decode cX3_breakAmong 63 = .ok (.getfield 22, 3) := by decide +kernel
theorem dX3_breakAmong_66 : decode cX3_breakAmong 66 = .ok (.aload_n 1, 1) := by decide +kernel
theorem dX3_breakAmong_67 : decode cX3_breakAmong 67 = .ok (.getfield 110, 3) := by decide +kernel
theorem dX3_breakAmong_70 : decode cX3_breakAmong 70 = .ok (.aload_n 1, 1) := by decide +kernel
theorem dX3_breakAmong_71 : decode cX3_breakAmong 71 = .ok (.getfield 113, 3) := by decide +kernel
theorem dX3_breakAmong_74 : decode cX3_breakAmong 74 = .ok (.lload 4, 2) := by decide +kernel
theorem dX3_breakAmong_76 : decode cX3_breakAmong 76 = .ok (.aload_n 0, 1) := by decide +kernel
theorem dX3_breakAmong_77 : decode cX3_breakAmong 77 = .ok (.getfield 36, 3) := by decide +kernel
theorem dX3_breakAmong_80 : decode cX3_breakAmong 80 = .ok (.invokevirtual 116, 3) := by decide +kernel
theorem dX3_breakAmong_83 : decode cX3_breakAmong 83 = .ok (.invokevirtual 120, 3) := by decide +kernel
theorem dX3_breakAmong_86 : decode cX3_breakAmong 86 = .ok (.iinc 3 1, 3) := by decide +kernel
theorem dX3_breakAmong_89 : decode cX3_breakAmong 89 = .ok (.goto (-67), 3) := by decide +kernel
theorem dX3_breakAmong_92 : decode cX3_breakAmong 92 = .ok (.return_, 1) := by decide +kernel
theorem dX3_breakWithout_0 : decode cX3_breakWithout 0 = .ok (.iconst 0, 1) := by decide +kernel
theorem dX3_breakWithout_1 : decode cX3_breakWithout 1 = .ok (.istore_n 3, 1) := by decide +kernel
theorem dX3_breakWithout_2 : decode cX3_breakWithout 2 = .ok (.iload_n 3, 1) := by decide +kernel
theorem dX3_breakWithout_3 : decode cX3_breakWithout 3 = .ok (.aload_n 0, 1) := by decide +kernel
theorem dX3_breakWithout_4 : decode cX3_breakWithout 4 = .ok (.getfield 36, 3) := by decide +kernel
theorem dX3_breakWithout_7 : decode cX3_breakWithout 7 = .ok (.if_icmp .gt 30, 3) := by decide +kernel
theorem dX3_breakWithout_10 : decode cX3_breakWithout 10 = .ok (.iload_n 3, 1) := by decide +kernel
theorem dX3_breakWithout_11 : decode cX3_breakWithout 11 = .ok (.iload_n 1, 1) := by decide +kernel
theorem dX3_breakWithout_12 : decode cX3_breakWithout 12 = .ok (.invokestatic 50, 3) := by decide +kernel
theorem dX3_breakWithout_15 : decode cX3_breakWithout 15 = .ok (.ifCond .eq 16, 3) := by decide +kernel
theorem dX3_breakWithout_18 : decode cX3_breakWithout 18 = .ok (.iload_n 3, 1) := by decide +kernel
theorem dX3_breakWithout_19 : decode cX3_breakWithout 19 = .ok (.iload_n 2, 1) := by decide +kernel
theorem dX3_breakWithout_20 : decode cX3_breakWithout 20 = .ok (.iand, 1) := by decide +kernel
theorem dX3_breakWithout_21 : decode cX3_breakWithout 21 = .ok (.ifCond .ne 10, 3) := by decide +kernel
theorem dX3_breakWithout_24 : decode cX3_breakWithout 24 = .ok (.aload_n 0, 1) := by decide +kernel
theorem dX3_breakWithout_25 : decode cX3_breakWithout 25 = .ok (.getfield 15, 3) := by decide +kernel
theorem dX3_breakWithout_28 : decode cX3_breakWithout 28 = .ok (.iload_n 3, 1) := by decide +kernel
theorem dX3_breakWithout_29 : decode cX3_breakWithout 29 = .ok (.iconst 1, 1) := by decide +kernel
theorem dX3_breakWithout_30 : decode cX3_breakWithout 30 = .ok (.bastore, 1) := by decide +kernel
theorem dX3_breakWithout_31 : decode cX3_breakWithout 31 = .ok (.iinc 3 1, 3) := by decide +kernel
theorem dX3_breakWithout_34 : decode cX3_breakWithout 34 = .ok (.goto (-32), 3) := by decide +kernel
theorem dX3_breakWithout_37 : decode cX3_breakWithout 37 = .ok (.return_, 1) := by decide +kernel
theorem dX3_leftBy_0 : decode cX3_leftBy 0 = .ok (.aload_n 0, 1) := by decide +kernel
theorem dX3_leftBy_1 : decode cX3_leftBy 1 = .ok (.getfield 36, 3) := by decide +kernel
theorem dX3_leftBy_4 : decode cX3_leftBy 4 = .ok (.aload_n 0, 1) := by decide +kernel
theorem dX3_leftBy_5 : decode cX3_leftBy 5 = .ok (.getfield 9, 3) := by decide +kernel
theorem dX3_leftBy_8 : decode cX3_leftBy 8 = .ok (.iload_n 1, 1) := by decide +kernel
theorem dX3_leftBy_9 : decode cX3_leftBy 9 = .ok (.iaload, 1) := by decide +kernel
theorem dX3_leftBy_10 : decode cX3_leftBy 10 = .ok (.ixor, 1) := by decide +kernel
theorem dX3_leftBy_11 : decode cX3_leftBy 11 = .ok (.ireturn, 1) := by decide +kernel
theorem dX3_cheapest_0 : decode cX3_cheapest 0 = .ok (.aload_n 0, 1) := by decide +kernel
theorem dX3_cheapest_1 : decode cX3_cheapest 1 = .ok (.getfield 9, 3) := by decide +kernel
theorem dX3_cheapest_4 : decode cX3_cheapest 4 = .ok (.iconst 0, 1) := by decide +kernel
theorem dX3_cheapest_5 : decode cX3_cheapest 5 = .ok (.iaload, 1) := by decide +kernel
theorem dX3_cheapest_6 : decode cX3_cheapest 6 = .ok (.istore_n 1, 1) := by decide +kernel
theorem dX3_cheapest_7 : decode cX3_cheapest 7 = .ok (.aload_n 0, 1) := by decide +kernel
theorem dX3_cheapest_8 : decode cX3_cheapest 8 = .ok (.getfield 22, 3) := by decide +kernel
theorem dX3_cheapest_11 : decode cX3_cheapest 11 = .ok (.iload_n 1, 1) := by decide +kernel
theorem dX3_cheapest_12 : decode cX3_cheapest 12 = .ok (.invokevirtual 124, 3) := by decide +kernel
theorem dX3_cheapest_15 : decode cX3_cheapest 15 = .ok (.istore_n 2, 1) := by decide +kernel
theorem dX3_cheapest_16 : decode cX3_cheapest 16 = .ok (.iconst 1, 1) := by decide +kernel
theorem dX3_cheapest_17 : decode cX3_cheapest 17 = .ok (.istore_n 3, 1) := by decide +kernel
theorem dX3_cheapest_18 : decode cX3_cheapest 18 = .ok (.iload_n 3, 1) := by decide +kernel
theorem dX3_cheapest_19 : decode cX3_cheapest 19 = .ok (.aload_n 0, 1) := by decide +kernel
theorem dX3_cheapest_20 : decode cX3_cheapest 20 = .ok (.getfield 42, 3) := by decide +kernel
theorem dX3_cheapest_23 : decode cX3_cheapest 23 = .ok (.if_icmp .ge 40, 3) := by decide +kernel
theorem dX3_cheapest_26 : decode cX3_cheapest 26 = .ok (.aload_n 0, 1) := by decide +kernel
theorem dX3_cheapest_27 : decode cX3_cheapest 27 = .ok (.getfield 22, 3) := by decide +kernel
theorem dX3_cheapest_30 : decode cX3_cheapest 30 = .ok (.aload_n 0, 1) := by decide +kernel
theorem dX3_cheapest_31 : decode cX3_cheapest 31 = .ok (.getfield 9, 3) := by decide +kernel
theorem dX3_cheapest_34 : decode cX3_cheapest 34 = .ok (.iload_n 3, 1) := by decide +kernel
theorem dX3_cheapest_35 : decode cX3_cheapest 35 = .ok (.iaload, 1) := by decide +kernel
theorem dX3_cheapest_36 : decode cX3_cheapest 36 = .ok (.invokevirtual 124, 3) := by decide +kernel
theorem dX3_cheapest_39 : decode cX3_cheapest 39 = .ok (.istore 4, 2) := by decide +kernel
theorem dX3_cheapest_41 : decode cX3_cheapest 41 = .ok (.iload 4, 2) := by decide +kernel
theorem dX3_cheapest_43 : decode cX3_cheapest 43 = .ok (.iload_n 2, 1) := by decide +kernel
theorem dX3_cheapest_44 : decode cX3_cheapest 44 = .ok (.if_icmp .ge 13, 3) := by decide +kernel
theorem dX3_cheapest_47 : decode cX3_cheapest 47 = .ok (.aload_n 0, 1) := by decide +kernel
theorem dX3_cheapest_48 : decode cX3_cheapest 48 = .ok (.getfield 9, 3) := by decide +kernel
theorem dX3_cheapest_51 : decode cX3_cheapest 51 = .ok (.iload_n 3, 1) := by decide +kernel
theorem dX3_cheapest_52 : decode cX3_cheapest 52 = .ok (.iaload, 1) := by decide +kernel
theorem dX3_cheapest_53 : decode cX3_cheapest 53 = .ok (.istore_n 1, 1) := by decide +kernel
theorem dX3_cheapest_54 : decode cX3_cheapest 54 = .ok (.iload 4, 2) := by decide +kernel
theorem dX3_cheapest_56 : decode cX3_cheapest 56 = .ok (.istore_n 2, 1) := by decide +kernel
theorem dX3_cheapest_57 : decode cX3_cheapest 57 = .ok (.iinc 3 1, 3) := by decide +kernel
theorem dX3_cheapest_60 : decode cX3_cheapest 60 = .ok (.goto (-42), 3) := by decide +kernel
theorem dX3_cheapest_63 : decode cX3_cheapest 63 = .ok (.iload_n 1, 1) := by decide +kernel
theorem dX3_cheapest_64 : decode cX3_cheapest 64 = .ok (.ireturn, 1) := by decide +kernel
theorem dX4_init_0 : decode cX4_init 0 = .ok (.aload_n 0, 1) := by decide +kernel
theorem dX4_init_1 : decode cX4_init 1 = .ok (.invokespecial 3, 3) := by decide +kernel
theorem dX4_init_4 : decode cX4_init 4 = .ok (.aload_n 0, 1) := by decide +kernel
theorem dX4_init_5 : decode cX4_init 5 = .ok (.bipush 6, 2) := by decide +kernel
theorem dX4_init_7 : decode cX4_init 7 = .ok (.newarray .boolean, 2) := by decide +kernel
theorem dX4_init_9 : decode cX4_init 9 = .ok (.putfield 9, 3) := by decide +kernel
theorem dX4_init_12 : decode cX4_init 12 = .ok (.aload_n 0, 1) := by decide +kernel
theorem dX4_init_13 : decode cX4_init 13 = .ok (.bipush 6, 2) := by decide +kernel
theorem dX4_init_15 : decode cX4_init 15 = .ok (.newarray .long, 2) := by decide +kernel
theorem dX4_init_17 : decode cX4_init 17 = .ok (.putfield 15, 3) := by decide +kernel
theorem dX4_init_20 : decode cX4_init 20 = .ok (.return_, 1) := by decide +kernel
theorem dX5_init_0 : decode cX5_init 0 = .ok (.aload_n 0, 1) := by decide +kernel
theorem dX5_init_1 : decode cX5_init 1 = .ok (.invokespecial 3, 3) := by decide +kernel
theorem dX5_init_4 : decode cX5_init 4 = .ok (.aload_n 0, 1) := by decide +kernel
theorem dX5_init_5 : decode cX5_init 5 = .ok (.iconst 3, 1) := by decide +kernel
theorem dX5_init_6 : decode cX5_init 6 = .ok (.anewarray 9, 3) := by decide +kernel
theorem dX5_init_9 : decode cX5_init 9 = .ok (.putfield 11, 3) := by decide +kernel
theorem dX5_init_12 : decode cX5_init 12 = .ok (.aload_n 0, 1) := by decide +kernel
theorem dX5_init_13 : decode cX5_init 13 = .ok (.bipush 6, 2) := by decide +kernel
theorem dX5_init_15 : decode cX5_init 15 = .ok (.anewarray 17, 3) := by decide +kernel
theorem dX5_init_18 : decode cX5_init 18 = .ok (.putfield 19, 3) := by decide +kernel
theorem dX5_init_21 : decode cX5_init 21 = .ok (.aload_n 0, 1) := by decide +kernel
theorem dX5_init_22 : decode cX5_init 22 = .ok (.iconst 3, 1) := by decide +kernel
theorem dX5_init_23 : decode cX5_init 23 = .ok (.newarray .int, 2) := by decide +kernel
theorem dX5_init_25 : decode cX5_init 25 = .ok (.putfield 23, 3) := by decide +kernel
theorem dX5_init_28 : decode cX5_init 28 = .ok (.aload_n 0, 1) := by decide +kernel
theorem dX5_init_29 : decode cX5_init 29 = .ok (.iconst 3, 1) := by decide +kernel
theorem dX5_init_30 : decode cX5_init 30 = .ok (.newarray .int, 2) := by decide +kernel
theorem dX5_init_32 : decode cX5_init 32 = .ok (.putfield 27, 3) := by decide +kernel
theorem dX5_init_35 : decode cX5_init 35 = .ok (.aload_n 0, 1) := by decide +kernel
theorem dX5_init_36 : decode cX5_init 36 = .ok (.sipush 4096, 3) := by decide +kernel
theorem dX5_init_39 : decode cX5_init 39 = .ok (.newarray .boolean, 2) := by decide +kernel
theorem dX5_init_41 : decode cX5_init 41 = .ok (.putfield 30, 3) := by decide +kernel
theorem dX5_init_44 : decode cX5_init 44 = .ok (.aload_n 0, 1) := by decide +kernel
theorem dX5_init_45 : decode cX5_init 45 = .ok (.aload_n 1, 1) := by decide +kernel
theorem dX5_init_46 : decode cX5_init 46 = .ok (.putfield 34, 3) := by decide +kernel
theorem dX5_init_49 : decode cX5_init 49 = .ok (.iconst 0, 1) := by decide +kernel
theorem dX5_init_50 : decode cX5_init 50 = .ok (.istore_n 2, 1) := by decide +kernel
theorem dX5_init_51 : decode cX5_init 51 = .ok (.iload_n 2, 1) := by decide +kernel
theorem dX5_init_52 : decode cX5_init 52 = .ok (.iconst 3, 1) := by decide +kernel
theorem dX5_init_53 : decode cX5_init 53 = .ok (.if_icmp .ge 22, 3) := by decide +kernel
theorem dX5_init_56 : decode cX5_init 56 = .ok (.aload_n 0, 1) := by decide +kernel
theorem dX5_init_57 : decode cX5_init 57 = .ok (.getfield 11, 3) := by decide +kernel
theorem dX5_init_60 : decode cX5_init 60 = .ok (.iload_n 2, 1) := by decide +kernel
theorem dX5_init_61 : decode cX5_init 61 = .ok (.new 9, 3) := by decide +kernel
theorem dX5_init_64 : decode cX5_init 64 = .ok (.dup, 1) := by decide +kernel
theorem dX5_init_65 : decode cX5_init 65 = .ok (.invokespecial 38, 3) := by decide +kernel
theorem dX5_init_68 : decode cX5_init 68 = .ok (.aastore, 1) := by decide +kernel
theorem dX5_init_69 : decode cX5_init 69 = .ok (.iinc 2 1, 3) := by decide +kernel
theorem dX5_init_72 : decode cX5_init 72 = .ok (.goto (-21), 3) := by decide +kernel
theorem dX5_init_75 : decode cX5_init 75 = .ok (.iconst 0, 1) := by decide +kernel
theorem dX5_init_76 : decode cX5_init 76 = .ok (.istore_n 2, 1) := by decide +kernel
theorem dX5_init_77 : decode cX5_init 77 = .ok (.iload_n 2, 1) := by decide +kernel
theorem dX5_init_78 : decode cX5_init 78 = .ok (.bipush 6, 2) := by decide +kernel
theorem dX5_init_80 : decode cX5_init 80 = .ok (.if_icmp .ge 22, 3) := by decide +kernel
theorem dX5_init_83 : decode cX5_init 83 = .ok (.aload_n 0, 1) := by decide +kernel
theorem dX5_init_84 : decode cX5_init 84 = .ok (.getfield 19, 3) := by decide +kernel
theorem dX5_init_87 : decode cX5_init 87 = .ok (.iload_n 2, 1) := by decide +kernel
theorem dX5_init_88 : decode cX5_init 88 = .ok (.new 17, 3) := by decide +kernel
theorem dX5_init_91 : decode cX5_init 91 = .ok (.dup, 1) := by decide +kernel
theorem dX5_init_92 : decode cX5_init 92 = .ok (.invokespecial 39, 3) := by decide +kernel
theorem dX5_init_95 : decode cX5_init 95 = .ok (.aastore, 1) := by decide +kernel
theorem dX5_init_96 : decode cX5_init 96 = .ok (.iinc 2 1, 3) := by decide +kernel
theorem dX5_init_99 : decode cX5_init 99 = .ok (.goto (-22), 3) := by decide +kernel
theorem dX5_init_102 : decode cX5_init 102 = .ok (.return_, 1) := by decide +kernel
theorem dX5_clear_0 : decode cX5_clear 0 = .ok (.aload_n 0, 1) := by decide +kernel
theorem dX5_clear_1 : decode cX5_clear 1 = .ok (.iconst 0, 1) := by decide +kernel
theorem dX5_clear_2 : decode cX5_clear 2 = .ok (.putfield 40, 3) := by decide +kernel
theorem dX5_clear_5 : decode cX5_clear 5 = .ok (.aload_n 0, 1) := by decide +kernel
theorem dX5_clear_6 : decode cX5_clear 6 = .ok (.iconst 0, 1) := by decide +kernel
theorem dX5_clear_7 : decode cX5_clear 7 = .ok (.putfield 44, 3) := by decide +kernel
theorem dX5_clear_10 : decode cX5_clear 10 = .ok (.return_, 1) := by decide +kernel
theorem dX5_addPart_0 : decode cX5_addPart 0 = .ok (.aload_n 0, 1) := by decide +kernel
theorem dX5_addPart_1 : decode cX5_addPart 1 = .ok (.getfield 11, 3) := by decide +kernel
theorem dX5_addPart_4 : decode cX5_addPart 4 = .ok (.aload_n 0, 1) := by decide +kernel
theorem dX5_addPart_5 : decode cX5_addPart 5 = .ok (.getfield 40, 3) := by decide +kernel
theorem dX5_addPart_8 : decode cX5_addPart 8 = .ok (.aaload, 1) := by decide +kernel
theorem dX5_addPart_9 : decode cX5_addPart 9 = .ok (.astore_n 2, 1) := by decide +kernel
theorem dX5_addPart_10 : decode cX5_addPart 10 = .ok (.aload_n 2, 1) := by decide +kernel
theorem dX5_addPart_11 : decode cX5_addPart 11 = .ok (.iload_n 1, 1) := by decide +kernel
theorem dX5_addPart_12 : decode cX5_addPart 12 = .ok (.putfield 47, 3) := by decide +kernel
theorem dX5_addPart_15 : decode cX5_addPart 15 = .ok (.iconst 0, 1) := by decide +kernel
theorem dX5_addPart_16 : decode cX5_addPart 16 = .ok (.istore_n 3, 1) := by decide +kernel
theorem dX5_addPart_17 : decode cX5_addPart 17 = .ok (.iload_n 3, 1) := by decide +kernel
theorem dX5_addPart_18 : decode cX5_addPart 18 = .ok (.bipush 6, 2) := by decide +kernel
theorem dX5_addPart_20 : decode cX5_addPart 20 = .ok (.if_icmp .ge 16, 3) := by decide +kernel
theorem dX5_addPart_23 : decode cX5_addPart 23 = .ok (.aload_n 2, 1) := by decide +kernel
theorem dX5_addPart_24 : decode cX5_addPart 24 = .ok (.getfield 50, 3) := by decide +kernel
theorem dX5_addPart_27 : decode cX5_addPart 27 = .ok (.iload_n 3, 1) := by decide +kernel
theorem dX5_addPart_28 : decode cX5_addPart 28 = .ok (.iconst 0, 1) := by decide +kernel
theorem dX5_addPart_29 : decode cX5_addPart 29 = .ok (.bastore, 1) := by decide +kernel
theorem dX5_addPart_30 : decode cX5_addPart 30 = .ok (.iinc 3 1, 3) := by decide +kernel
theorem dX5_addPart_33 : decode cX5_addPart 33 = .ok (.goto (-16), 3) := by decide +kernel
theorem dX5_addPart_36 : decode cX5_addPart 36 = .ok (.aload_n 0, 1) := by decide +kernel
theorem dX5_addPart_37 : decode cX5_addPart 37 = .ok (.dup, 1) := by decide +kernel
theorem dX5_addPart_38 : decode cX5_addPart 38 = .ok (.getfield 40, 3) := by decide +kernel
theorem dX5_addPart_41 : decode cX5_addPart 41 = .ok (.iconst 1, 1) := by decide +kernel
theorem dX5_addPart_42 : decode cX5_addPart 42 = .ok (.iadd, 1) := by decide +kernel
theorem dX5_addPart_43 : decode cX5_addPart 43 = .ok (.putfield 40, 3) := by decide +kernel
theorem dX5_addPart_46 : decode cX5_addPart 46 = .ok (.aload_n 0, 1) := by decide +kernel
theorem dX5_addPart_47 : decode cX5_addPart 47 = .ok (.getfield 40, 3) := by decide +kernel
theorem dX5_addPart_50 : decode cX5_addPart 50 = .ok (.iconst 1, 1) := by decide +kernel
theorem dX5_addPart_51 : decode cX5_addPart 51 = .ok (.isub, 1) := by decide +kernel
theorem dX5_addPart_52 : decode cX5_addPart 52 = .ok (.ireturn, 1) := by decide +kernel
theorem dX5_addJoin_0 : decode cX5_addJoin 0 = .ok (.aload_n 0, 1) := by decide +kernel
theorem dX5_addJoin_1 : decode cX5_addJoin 1 = .ok (.getfield 19, 3) := by decide +kernel
theorem dX5_addJoin_4 : decode cX5_addJoin 4 = .ok (.aload_n 0, 1) := by decide +kernel
theorem dX5_addJoin_5 : decode cX5_addJoin 5 = .ok (.getfield 44, 3) := by decide +kernel
theorem dX5_addJoin_8 : decode cX5_addJoin 8 = .ok (.aaload, 1) := by decide +kernel
theorem dX5_addJoin_9 : decode cX5_addJoin 9 = .ok (.astore 5, 2) := by decide +kernel
theorem dX5_addJoin_11 : decode cX5_addJoin 11 = .ok (.aload 5, 2) := by decide +kernel
theorem dX5_addJoin_13 : decode cX5_addJoin 13 = .ok (.iload_n 1, 1) := by decide +kernel
theorem dX5_addJoin_14 : decode cX5_addJoin 14 = .ok (.putfield 53, 3) := by decide +kernel
theorem dX5_addJoin_17 : decode cX5_addJoin 17 = .ok (.aload 5, 2) := by decide +kernel
theorem dX5_addJoin_19 : decode cX5_addJoin 19 = .ok (.iload_n 2, 1) := by decide +kernel
theorem dX5_addJoin_20 : decode cX5_addJoin 20 = .ok (.putfield 56, 3) := by decide +kernel
theorem dX5_addJoin_23 : decode cX5_addJoin 23 = .ok (.aload 5, 2) := by decide +kernel
theorem dX5_addJoin_25 : decode cX5_addJoin 25 = .ok (.iload_n 3, 1) := by decide +kernel
theorem dX5_addJoin_26 : decode cX5_addJoin 26 = .ok (.putfield 59, 3) := by decide +kernel
theorem dX5_addJoin_29 : decode cX5_addJoin 29 = .ok (.aload 5, 2) := by decide +kernel
theorem dX5_addJoin_31 : decode cX5_addJoin 31 = .ok (.iload 4, 2) := by decide +kernel
theorem dX5_addJoin_33 : decode cX5_addJoin 33 = .ok (.putfield 62, 3) := by decide +kernel
theorem dX5_addJoin_36 : decode cX5_addJoin 36 = .ok (.aload_n 0, 1) := by decide +kernel
theorem dX5_addJoin_37 : decode cX5_addJoin 37 = .ok (.dup, 1) := by decide +kernel
theorem dX5_addJoin_38 : decode cX5_addJoin 38 = .ok (.getfield 44, 3) := by decide +kernel
theorem dX5_addJoin_41 : decode cX5_addJoin 41 = .ok (.iconst 1, 1) := by decide +kernel
theorem dX5_addJoin_42 : decode cX5_addJoin 42 = .ok (.iadd, 1) := by decide +kernel
theorem dX5_addJoin_43 : decode cX5_addJoin 43 = .ok (.putfield 44, 3) := by decide +kernel
theorem dX5_addJoin_46 : decode cX5_addJoin 46 = .ok (.aload_n 0, 1) := by decide +kernel
theorem dX5_addJoin_47 : decode cX5_addJoin 47 = .ok (.getfield 44, 3) := by decide +kernel
theorem dX5_addJoin_50 : decode cX5_addJoin 50 = .ok (.ireturn, 1) := by decide +kernel
theorem dX5_standsIn_0 : decode cX5_standsIn 0 = .ok (.aload_n 0, 1) := by decide +kernel
theorem dX5_standsIn_1 : decode cX5_standsIn 1 = .ok (.iload_n 1, 1) := by decide +kernel
theorem dX5_standsIn_2 : decode cX5_standsIn 2 = .ok (.invokevirtual 65, 3) := by decide +kernel
theorem dX5_standsIn_5 : decode cX5_standsIn 5 = .ok (.aload_n 0, 1) := by decide +kernel
theorem dX5_standsIn_6 : decode cX5_standsIn 6 = .ok (.invokevirtual 69, 3) := by decide +kernel
theorem dX5_standsIn_9 : decode cX5_standsIn 9 = .ok (.istore_n 2, 1) := by decide +kernel
theorem dX5_standsIn_10 : decode cX5_standsIn 10 = .ok (.iconst 0, 1) := by decide +kernel
theorem dX5_standsIn_11 : decode cX5_standsIn 11 = .ok (.istore_n 3, 1) := by decide +kernel
theorem dX5_standsIn_12 : decode cX5_standsIn 12 = .ok (.iload_n 3, 1) := by decide +kernel
theorem dX5_standsIn_13 : decode cX5_standsIn 13 = .ok (.iload_n 2, 1) := by decide +kernel
theorem dX5_standsIn_14 : decode cX5_standsIn 14 = .ok (.if_icmp .ge 19, 3) := by decide +kernel
theorem dX5_standsIn_17 : decode cX5_standsIn 17 = .ok (.aload_n 0, 1) := by decide +kernel
theorem dX5_standsIn_18 : decode cX5_standsIn 18 = .ok (.iload_n 3, 1) := by decide +kernel
theorem dX5_standsIn_19 : decode cX5_standsIn 19 = .ok (.invokevirtual 73, 3) := by decide +kernel
theorem dX5_standsIn_22 : decode cX5_standsIn 22 = .ok (.ifCond .eq 5, 3) := by decide +kernel
theorem dX5_standsIn_25 : decode cX5_standsIn 25 = .ok (.iconst 1, 1) := by decide +kernel
theorem dX5_standsIn_26 : decode cX5_standsIn 26 = .ok (.ireturn, 1) := by decide +kernel
theorem dX5_standsIn_27 : decode cX5_standsIn 27 = .ok (.iinc 3 1, 3) := by decide +kernel
theorem dX5_standsIn_30 : decode cX5_standsIn 30 = .ok (.goto (-18), 3) := by decide +kernel
theorem dX5_standsIn_33 : decode cX5_standsIn 33 = .ok (.iconst 0, 1) := by decide +kernel
theorem dX5_standsIn_34 : decode cX5_standsIn 34 = .ok (.ireturn, 1) := by decide +kernel
theorem dX5_findStanding_0 : decode cX5_findStanding 0 = .ok (.aload_n 0, 1) := by decide +kernel
theorem dX5_findStanding_1 : decode cX5_findStanding 1 = .ok (.getfield 30, 3) := by decide +kernel
theorem dX5_findStanding_4 : decode cX5_findStanding 4 = .ok (.aload_n 0, 1) := by decide +kernel
theorem dX5_findStanding_5 : decode cX5_findStanding 5 = .ok (.getfield 34, 3) := by decide +kernel
theorem dX5_findStanding_8 : decode cX5_findStanding 8 = .ok (.getfield 77, 3) := by decide +kernel
theorem dX5_findStanding_11 : decode cX5_findStanding 11 = .ok (.invokestatic 82, 3) := by decide +kernel
theorem dX5_findStanding_14 : decode cX5_findStanding 14 = .ok (.aload_n 0, 1) := by decide +kernel
theorem dX5_findStanding_15 : decode cX5_findStanding 15 = .ok (.iload_n 1, 1) := by decide +kernel
theorem dX5_findStanding_16 : decode cX5_findStanding 16 = .ok (.invokevirtual 65, 3) := by decide +kernel
theorem dX5_findStanding_19 : decode cX5_findStanding 19 = .ok (.aload_n 0, 1) := by decide +kernel
theorem dX5_findStanding_20 : decode cX5_findStanding 20 = .ok (.invokevirtual 69, 3) := by decide +kernel
theorem dX5_findStanding_23 : decode cX5_findStanding 23 = .ok (.istore_n 2, 1) := by decide +kernel
theorem dX5_findStanding_24 : decode cX5_findStanding 24 = .ok (.iconst 0, 1) := by decide +kernel
theorem dX5_findStanding_25 : decode cX5_findStanding 25 = .ok (.istore_n 3, 1) := by decide +kernel
theorem dX5_findStanding_26 : decode cX5_findStanding 26 = .ok (.iload_n 3, 1) := by decide +kernel
theorem dX5_findStanding_27 : decode cX5_findStanding 27 = .ok (.iload_n 2, 1) := by decide +kernel
theorem dX5_findStanding_28 : decode cX5_findStanding 28 = .ok (.if_icmp .ge 27, 3) := by decide +kernel
theorem dX5_findStanding_31 : decode cX5_findStanding 31 = .ok (.aload_n 0, 1) := by decide +kernel
theorem dX5_findStanding_32 : decode cX5_findStanding 32 = .ok (.iload_n 3, 1) := by decide +kernel
theorem dX5_findStanding_33 : decode cX5_findStanding 33 = .ok (.invokevirtual 73, 3) := by decide +kernel
theorem dX5_findStanding_36 : decode cX5_findStanding 36 = .ok (.ifCond .eq 13, 3) := by decide +kernel
theorem dX5_findStanding_39 : decode cX5_findStanding 39 = .ok (.aload_n 0, 1) := by decide +kernel
theorem dX5_findStanding_40 : decode cX5_findStanding 40 = .ok (.getfield 30, 3) := by decide +kernel
theorem dX5_findStanding_43 : decode cX5_findStanding 43 = .ok (.aload_n 0, 1) := by decide +kernel
theorem dX5_findStanding_44 : decode cX5_findStanding 44 = .ok (.invokevirtual 86, 3) := by decide +kernel
theorem dX5_findStanding_47 : decode cX5_findStanding 47 = .ok (.iconst 1, 1) := by decide +kernel
theorem dX5_findStanding_48 : decode cX5_findStanding 48 = .ok (.bastore, 1) := by decide +kernel
theorem dX5_findStanding_49 : decode cX5_findStanding 49 = .ok (.iinc 3 1, 3) := by decide +kernel
theorem dX5_findStanding_52 : decode cX5_findStanding 52 = .ok (.goto (-26), 3) := by decide +kernel
theorem dX5_findStanding_55 : decode cX5_findStanding 55 = .ok (.aload_n 0, 1) := by decide +kernel
theorem dX5_findStanding_56 : decode cX5_findStanding 56 = .ok (.getfield 30, 3) := by decide +kernel
theorem dX5_findStanding_59 : decode cX5_findStanding 59 = .ok (.aload_n 0, 1) := by decide +kernel
theorem dX5_findStanding_60 : decode cX5_findStanding 60 = .ok (.getfield 34, 3) := by decide +kernel
theorem dX5_findStanding_63 : decode cX5_findStanding 63 = .ok (.getfield 77, 3) := by decide +kernel
theorem dX5_findStanding_66 : decode cX5_findStanding 66 = .ok (.invokestatic 89, 3) := by decide +kernel
theorem dX5_findStanding_69 : decode cX5_findStanding 69 = .ok (.return_, 1) := by decide +kernel
theorem dX5_findFitting_0 : decode cX5_findFitting 0 = .ok (.iconst 0, 1) := by decide +kernel
theorem dX5_findFitting_1 : decode cX5_findFitting 1 = .ok (.istore_n 2, 1) := by decide +kernel
theorem dX5_findFitting_2 : decode cX5_findFitting 2 = .ok (.iload_n 2, 1) := by decide +kernel
theorem dX5_findFitting_3 : decode cX5_findFitting 3 = .ok (.aload_n 0, 1) := by decide +kernel
theorem dX5_findFitting_4 : decode cX5_findFitting 4 = .ok (.getfield 40, 3) := by decide +kernel
theorem dX5_findFitting_7 : decode cX5_findFitting 7 = .ok (.if_icmp .ge 26, 3) := by decide +kernel
theorem dX5_findFitting_10 : decode cX5_findFitting 10 = .ok (.aload_n 0, 1) := by decide +kernel
theorem dX5_findFitting_11 : decode cX5_findFitting 11 = .ok (.getfield 23, 3) := by decide +kernel
theorem dX5_findFitting_14 : decode cX5_findFitting 14 = .ok (.iload_n 2, 1) := by decide +kernel
theorem dX5_findFitting_15 : decode cX5_findFitting 15 = .ok (.aload_n 0, 1) := by decide +kernel
theorem dX5_findFitting_16 : decode cX5_findFitting 16 = .ok (.aload_n 0, 1) := by decide +kernel
theorem dX5_findFitting_17 : decode cX5_findFitting 17 = .ok (.getfield 11, 3) := by decide +kernel
theorem dX5_findFitting_20 : decode cX5_findFitting 20 = .ok (.iload_n 2, 1) := by decide +kernel
theorem dX5_findFitting_21 : decode cX5_findFitting 21 = .ok (.aaload, 1) := by decide +kernel
theorem dX5_findFitting_22 : decode cX5_findFitting 22 = .ok (.iload_n 1, 1) := by decide +kernel
theorem dX5_findFitting_23 : decode cX5_findFitting 23 = .ok (.invokevirtual 92, 3) := by decide +kernel
theorem dX5_findFitting_26 : decode cX5_findFitting 26 = .ok (.iastore, 1) := by decide +kernel
theorem dX5_findFitting_27 : decode cX5_findFitting 27 = .ok (.iinc 2 1, 3) := by decide +kernel
theorem dX5_findFitting_30 : decode cX5_findFitting 30 = .ok (.goto (-28), 3) := by decide +kernel
theorem dX5_findFitting_33 : decode cX5_findFitting 33 = .ok (.return_, 1) := by decide +kernel
theorem dX5_fittingOf_0 : decode cX5_fittingOf 0 = .ok (.iconst 0, 1) := by decide +kernel
theorem dX5_fittingOf_1 : decode cX5_fittingOf 1 = .ok (.istore_n 3, 1) := by decide +kernel
theorem dX5_fittingOf_2 : decode cX5_fittingOf 2 = .ok (.iconst 0, 1) := by decide +kernel
theorem dX5_fittingOf_3 : decode cX5_fittingOf 3 = .ok (.istore 4, 2) := by decide +kernel
theorem dX5_fittingOf_5 : decode cX5_fittingOf 5 = .ok (.iload 4, 2) := by decide +kernel
theorem dX5_fittingOf_7 : decode cX5_fittingOf 7 = .ok (.aload_n 0, 1) := by decide +kernel
theorem dX5_fittingOf_8 : decode cX5_fittingOf 8 = .ok (.getfield 34, 3) := by decide +kernel
theorem dX5_fittingOf_11 : decode cX5_fittingOf 11 = .ok (.getfield 77, 3) := by decide +kernel
theorem dX5_fittingOf_14 : decode cX5_fittingOf 14 = .ok (.if_icmp .ge 63, 3) := by decide +kernel
theorem dX5_fittingOf_17 : decode cX5_fittingOf 17 = .ok (.iload_n 2, 1) := by decide +kernel
theorem dX5_fittingOf_18 : decode cX5_fittingOf 18 = .ok (.iload 4, 2) := by decide +kernel
theorem dX5_fittingOf_20 : decode cX5_fittingOf 20 = .ok (.invokestatic 96, 3) := by decide +kernel
theorem dX5_fittingOf_23 : decode cX5_fittingOf 23 = .ok (.ifCond .eq 48, 3) := by decide +kernel
theorem dX5_fittingOf_26 : decode cX5_fittingOf 26 = .ok (.aload_n 0, 1) := by decide +kernel
theorem dX5_fittingOf_27 : decode cX5_fittingOf 27 = .ok (.getfield 34, 3) := by decide +kernel
theorem dX5_fittingOf_30 : decode cX5_fittingOf 30 = .ok (.getfield 100, 3) := by decide +kernel
theorem dX5_fittingOf_33 : decode cX5_fittingOf 33 = .ok (.iload 4, 2) := by decide +kernel
theorem dX5_fittingOf_35 : decode cX5_fittingOf 35 = .ok (.aaload, 1) := by decide +kernel
theorem dX5_fittingOf_36 : decode cX5_fittingOf 36 = .ok (.getfield 104, 3) := by decide +kernel
theorem dX5_fittingOf_39 : decode cX5_fittingOf 39 = .ok (.aload_n 1, 1) := by decide +kernel
theorem dX5_fittingOf_40 : decode cX5_fittingOf 40 = .ok (.getfield 47, 3) := by decide +kernel
theorem dX5_fittingOf_43 : decode cX5_fittingOf 43 = .ok (.if_icmp .ne 28, 3) := by decide +kernel
theorem dX5_fittingOf_46 : decode cX5_fittingOf 46 = .ok (.aload_n 0, 1) := by decide +kernel
theorem dX5_fittingOf_47 : decode cX5_fittingOf 47 = .ok (.aload_n 1, 1) := by decide +kernel
theorem dX5_fittingOf_48 : decode cX5_fittingOf 48 = .ok (.aload_n 0, 1) := by decide +kernel
theorem dX5_fittingOf_49 : decode cX5_fittingOf 49 = .ok (.getfield 34, 3) := by decide +kernel
theorem dX5_fittingOf_52 : decode cX5_fittingOf 52 = .ok (.getfield 100, 3) := by decide +kernel
theorem dX5_fittingOf_55 : decode cX5_fittingOf 55 = .ok (.iload 4, 2) := by decide +kernel
theorem dX5_fittingOf_57 : decode cX5_fittingOf 57 = .ok (.aaload, 1) := by decide +kernel
theorem dX5_fittingOf_58 : decode cX5_fittingOf 58 = .ok (.invokevirtual 107, 3) := by decide +kernel
theorem dX5_fittingOf_61 : decode cX5_fittingOf 61 = .ok (.ifCond .eq 10, 3) := by decide +kernel
theorem dX5_fittingOf_64 : decode cX5_fittingOf 64 = .ok (.iload_n 3, 1) := by decide +kernel
theorem dX5_fittingOf_65 : decode cX5_fittingOf 65 = .ok (.iconst 1, 1) := by decide +kernel
theorem dX5_fittingOf_66 : decode cX5_fittingOf 66 = .ok (.iload 4, 2) := by decide +kernel
theorem dX5_fittingOf_68 : decode cX5_fittingOf 68 = .ok (.ishl, 1) := by decide +kernel
theorem dX5_fittingOf_69 : decode cX5_fittingOf 69 = .ok (.ior, 1) := by decide +kernel
theorem dX5_fittingOf_70 : decode cX5_fittingOf 70 = .ok (.istore_n 3, 1) := by decide +kernel
theorem dX5_fittingOf_71 : decode cX5_fittingOf 71 = .ok (.iinc 4 1, 3) := by decide +kernel
theorem dX5_fittingOf_74 : decode cX5_fittingOf 74 = .ok (.goto (-69), 3) := by decide +kernel
theorem dX5_fittingOf_77 : decode cX5_fittingOf 77 = .ok (.iload_n 3, 1) := by decide +kernel
theorem dX5_fittingOf_78 : decode cX5_fittingOf 78 = .ok (.ireturn, 1) := by decide +kernel
theorem dX5_hasTold_0 : decode cX5_hasTold 0 = .ok (.iconst 0, 1) := by decide +kernel
theorem dX5_hasTold_1 : decode cX5_hasTold 1 = .ok (.istore_n 3, 1) := by decide +kernel
theorem dX5_hasTold_2 : decode cX5_hasTold 2 = .ok (.iload_n 3, 1) := by decide +kernel
theorem dX5_hasTold_3 : decode cX5_hasTold 3 = .ok (.bipush 6, 2) := by decide +kernel
theorem dX5_hasTold_5 : decode cX5_hasTold 5 = .ok (.if_icmp .ge 45, 3) := by decide +kernel
theorem dX5_hasTold_8 : decode cX5_hasTold 8 = .ok (.aload_n 1, 1) := by decide +kernel
theorem dX5_hasTold_9 : decode cX5_hasTold 9 = .ok (.getfield 50, 3) := by decide +kernel
theorem dX5_hasTold_12 : decode cX5_hasTold 12 = .ok (.iload_n 3, 1) := by decide +kernel
theorem dX5_hasTold_13 : decode cX5_hasTold 13 = .ok (.baload, 1) := by decide +kernel
theorem dX5_hasTold_14 : decode cX5_hasTold 14 = .ok (.ifCond .eq 30, 3) := by decide +kernel
theorem dX5_hasTold_17 : decode cX5_hasTold 17 = .ok (.aload_n 2, 1) := by decide +kernel
theorem dX5_hasTold_18 : decode cX5_hasTold 18 = .ok (.getfield 111, 3) := by decide +kernel
theorem dX5_hasTold_21 : decode cX5_hasTold 21 = .ok (.iload_n 3, 1) := by decide +kernel
theorem dX5_hasTold_22 : decode cX5_hasTold 22 = .ok (.baload, 1) := by decide +kernel
theorem dX5_hasTold_23 : decode cX5_hasTold 23 = .ok (.ifCond .eq 19, 3) := by decide +kernel
theorem dX5_hasTold_26 : decode cX5_hasTold 26 = .ok (.aload_n 2, 1) := by decide +kernel
theorem dX5_hasTold_27 : decode cX5_hasTold 27 = .ok (.getfield 114, 3) := by decide +kernel
theorem dX5_hasTold_30 : decode cX5_hasTold 30 = .ok (.iload_n 3, 1) := by decide +kernel
theorem dX5_hasTold_31 : decode cX5_hasTold 31 = .ok (.laload, 1) := by decide +kernel
theorem dX5_hasTold_32 : decode cX5_hasTold 32 = .ok (.aload_n 1, 1) := by decide +kernel
theorem dX5_hasTold_33 : decode cX5_hasTold 33 = .ok (.getfield 118, 3) := by decide +kernel
theorem dX5_hasTold_36 : decode cX5_hasTold 36 = .ok (.iload_n 3, 1) := by decide +kernel
theorem dX5_hasTold_37 : decode cX5_hasTold 37 = .ok (.laload, 1) := by decide +kernel
theorem dX5_hasTold_38 : decode cX5_hasTold 38 = .ok (.lcmp, 1) := by decide +kernel
theorem dX5_hasTold_39 : decode cX5_hasTold 39 = .ok (.ifCond .eq 5, 3) := by decide +kernel
theorem dX5_hasTold_42 : decode cX5_hasTold 42 = .ok (.iconst 0, 1) := by decide +kernel
theorem dX5_hasTold_43 : decode cX5_hasTold 43 = .ok (.ireturn, 1) := by decide +kernel
theorem dX5_hasTold_44 : decode cX5_hasTold 44 = .ok (.iinc 3 1, 3) := by decide +kernel
theorem dX5_hasTold_47 : decode cX5_hasTold 47 = .ok (.goto (-45), 3) := by decide +kernel
theorem dX5_hasTold_50 : decode cX5_hasTold 50 = .ok (.iconst 1, 1) := by decide +kernel
theorem dX5_hasTold_51 : decode cX5_hasTold 51 = .ok (.ireturn, 1) := by decide +kernel
theorem dX5_manyTries_0 : decode cX5_manyTries 0 = .ok (.iconst 1, 1) := by decide +kernel
theorem dX5_manyTries_1 : decode cX5_manyTries 1 = .ok (.istore_n 1, 1) := by decide +kernel
theorem dX5_manyTries_2 : decode cX5_manyTries 2 = .ok (.iconst 0, 1) := by decide +kernel
theorem dX5_manyTries_3 : decode cX5_manyTries 3 = .ok (.istore_n 2, 1) := by decide +kernel
theorem dX5_manyTries_4 : decode cX5_manyTries 4 = .ok (.iload_n 2, 1) := by decide +kernel
theorem dX5_manyTries_5 : decode cX5_manyTries 5 = .ok (.aload_n 0, 1) := by decide +kernel
theorem dX5_manyTries_6 : decode cX5_manyTries 6 = .ok (.getfield 40, 3) := by decide +kernel
theorem dX5_manyTries_9 : decode cX5_manyTries 9 = .ok (.if_icmp .ge 14, 3) := by decide +kernel
theorem dX5_manyTries_12 : decode cX5_manyTries 12 = .ok (.iload_n 1, 1) := by decide +kernel
theorem dX5_manyTries_13 : decode cX5_manyTries 13 = .ok (.bipush 12, 2) := by decide +kernel
theorem dX5_manyTries_15 : decode cX5_manyTries 15 = .ok (.imul, 1) := by decide +kernel
theorem dX5_manyTries_16 : decode cX5_manyTries 16 = .ok (.istore_n 1, 1) := by decide +kernel
theorem dX5_manyTries_17 : decode cX5_manyTries 17 = .ok (.iinc 2 1, 3) := by decide +kernel
theorem dX5_manyTries_20 : decode cX5_manyTries 20 = .ok (.goto (-16), 3) := by decide +kernel
theorem dX5_manyTries_23 : decode cX5_manyTries 23 = .ok (.iload_n 1, 1) := by decide +kernel
theorem dX5_manyTries_24 : decode cX5_manyTries 24 = .ok (.ireturn, 1) := by decide +kernel
theorem dX5_stood_0 : decode cX5_stood 0 = .ok (.iload_n 1, 1) := by decide +kernel
theorem dX5_stood_1 : decode cX5_stood 1 = .ok (.istore_n 2, 1) := by decide +kernel
theorem dX5_stood_2 : decode cX5_stood 2 = .ok (.iconst 0, 1) := by decide +kernel
theorem dX5_stood_3 : decode cX5_stood 3 = .ok (.istore_n 3, 1) := by decide +kernel
theorem dX5_stood_4 : decode cX5_stood 4 = .ok (.iload_n 3, 1) := by decide +kernel
theorem dX5_stood_5 : decode cX5_stood 5 = .ok (.aload_n 0, 1) := by decide +kernel
theorem dX5_stood_6 : decode cX5_stood 6 = .ok (.getfield 40, 3) := by decide +kernel
theorem dX5_stood_9 : decode cX5_stood 9 = .ok (.if_icmp .ge 44, 3) := by decide +kernel
theorem dX5_stood_12 : decode cX5_stood 12 = .ok (.aload_n 0, 1) := by decide +kernel
theorem dX5_stood_13 : decode cX5_stood 13 = .ok (.getfield 27, 3) := by decide +kernel
theorem dX5_stood_16 : decode cX5_stood 16 = .ok (.iload_n 3, 1) := by decide +kernel
theorem dX5_stood_17 : decode cX5_stood 17 = .ok (.iload_n 2, 1) := by decide +kernel
theorem dX5_stood_18 : decode cX5_stood 18 = .ok (.bipush 12, 2) := by decide +kernel
theorem dX5_stood_20 : decode cX5_stood 20 = .ok (.irem, 1) := by decide +kernel
theorem dX5_stood_21 : decode cX5_stood 21 = .ok (.iastore, 1) := by decide +kernel
theorem dX5_stood_22 : decode cX5_stood 22 = .ok (.iload_n 2, 1) := by decide +kernel
theorem dX5_stood_23 : decode cX5_stood 23 = .ok (.bipush 12, 2) := by decide +kernel
theorem dX5_stood_25 : decode cX5_stood 25 = .ok (.idiv, 1) := by decide +kernel
theorem dX5_stood_26 : decode cX5_stood 26 = .ok (.istore_n 2, 1) := by decide +kernel
theorem dX5_stood_27 : decode cX5_stood 27 = .ok (.aload_n 0, 1) := by decide +kernel
theorem dX5_stood_28 : decode cX5_stood 28 = .ok (.getfield 23, 3) := by decide +kernel
theorem dX5_stood_31 : decode cX5_stood 31 = .ok (.iload_n 3, 1) := by decide +kernel
theorem dX5_stood_32 : decode cX5_stood 32 = .ok (.iaload, 1) := by decide +kernel
theorem dX5_stood_33 : decode cX5_stood 33 = .ok (.aload_n 0, 1) := by decide +kernel
theorem dX5_stood_34 : decode cX5_stood 34 = .ok (.getfield 27, 3) := by decide +kernel
theorem dX5_stood_37 : decode cX5_stood 37 = .ok (.iload_n 3, 1) := by decide +kernel
theorem dX5_stood_38 : decode cX5_stood 38 = .ok (.iaload, 1) := by decide +kernel
theorem dX5_stood_39 : decode cX5_stood 39 = .ok (.invokestatic 96, 3) := by decide +kernel
theorem dX5_stood_42 : decode cX5_stood 42 = .ok (.ifCond .ne 5, 3) := by decide +kernel
theorem dX5_stood_45 : decode cX5_stood 45 = .ok (.iconst 0, 1) := by decide +kernel
theorem dX5_stood_46 : decode cX5_stood 46 = .ok (.ireturn, 1) := by decide +kernel
theorem dX5_stood_47 : decode cX5_stood 47 = .ok (.iinc 3 1, 3) := by decide +kernel
theorem dX5_stood_50 : decode cX5_stood 50 = .ok (.goto (-46), 3) := by decide +kernel
theorem dX5_stood_53 : decode cX5_stood 53 = .ok (.iconst 0, 1) := by decide +kernel
theorem dX5_stood_54 : decode cX5_stood 54 = .ok (.istore_n 3, 1) := by decide +kernel
theorem dX5_stood_55 : decode cX5_stood 55 = .ok (.iload_n 3, 1) := by decide +kernel
theorem dX5_stood_56 : decode cX5_stood 56 = .ok (.aload_n 0, 1) := by decide +kernel
theorem dX5_stood_57 : decode cX5_stood 57 = .ok (.getfield 44, 3) := by decide +kernel
theorem dX5_stood_60 : decode cX5_stood 60 = .ok (.if_icmp .ge 24, 3) := by decide +kernel
theorem dX5_stood_63 : decode cX5_stood 63 = .ok (.aload_n 0, 1) := by decide +kernel
theorem dX5_stood_64 : decode cX5_stood 64 = .ok (.aload_n 0, 1) := by decide +kernel
theorem dX5_stood_65 : decode cX5_stood 65 = .ok (.getfield 19, 3) := by decide +kernel
theorem dX5_stood_68 : decode cX5_stood 68 = .ok (.iload_n 3, 1) := by decide +kernel
theorem dX5_stood_69 : decode cX5_stood 69 = .ok (.aaload, 1) := by decide +kernel
theorem dX5_stood_70 : decode cX5_stood 70 = .ok (.invokevirtual 119, 3) := by decide +kernel
theorem dX5_stood_73 : decode cX5_stood 73 = .ok (.ifCond .ne 5, 3) := by decide +kernel
theorem dX5_stood_76 : decode cX5_stood 76 = .ok (.iconst 0, 1) := by decide +kernel
theorem dX5_stood_77 : decode cX5_stood 77 = .ok (.ireturn, 1) := by decide +kernel
theorem dX5_stood_78 : decode cX5_stood 78 = .ok (.iinc 3 1, 3) := by decide +kernel
theorem dX5_stood_81 : decode cX5_stood 81 = .ok (.goto (-26), 3) := by decide +kernel
theorem dX5_stood_84 : decode cX5_stood 84 = .ok (.iconst 1, 1) := by decide +kernel
theorem dX5_stood_85 : decode cX5_stood 85 = .ok (.ireturn, 1) := by decide +kernel
theorem dX5_isJoined_0 : decode cX5_isJoined 0 = .ok (.aload_n 0, 1) := by decide +kernel
theorem dX5_isJoined_1 : decode cX5_isJoined 1 = .ok (.getfield 34, 3) := by decide +kernel
theorem dX5_isJoined_4 : decode cX5_isJoined 4 = .ok (.getfield 100, 3) := by decide +kernel
theorem dX5_isJoined_7 : decode cX5_isJoined 7 = .ok (.aload_n 0, 1) := by decide +kernel
theorem dX5_isJoined_8 : decode cX5_isJoined 8 = .ok (.getfield 27, 3) := by decide +kernel
theorem dX5_isJoined_11 : decode cX5_isJoined 11 = .ok (.aload_n 1, 1) := by decide +kernel
theorem dX5_isJoined_12 : decode cX5_isJoined 12 = .ok (.getfield 53, 3) := by decide +kernel
theorem dX5_isJoined_15 : decode cX5_isJoined 15 = .ok (.iaload, 1) := by decide +kernel
theorem dX5_isJoined_16 : decode cX5_isJoined 16 = .ok (.aaload, 1) := by decide +kernel
theorem dX5_isJoined_17 : decode cX5_isJoined 17 = .ok (.astore_n 2, 1) := by decide +kernel
theorem dX5_isJoined_18 : decode cX5_isJoined 18 = .ok (.aload_n 0, 1) := by decide +kernel
theorem dX5_isJoined_19 : decode cX5_isJoined 19 = .ok (.getfield 34, 3) := by decide +kernel
theorem dX5_isJoined_22 : decode cX5_isJoined 22 = .ok (.getfield 100, 3) := by decide +kernel
theorem dX5_isJoined_25 : decode cX5_isJoined 25 = .ok (.aload_n 0, 1) := by decide +kernel
theorem dX5_isJoined_26 : decode cX5_isJoined 26 = .ok (.getfield 27, 3) := by decide +kernel
theorem dX5_isJoined_29 : decode cX5_isJoined 29 = .ok (.aload_n 1, 1) := by decide +kernel
theorem dX5_isJoined_30 : decode cX5_isJoined 30 = .ok (.getfield 59, 3) := by decide +kernel
theorem dX5_isJoined_33 : decode cX5_isJoined 33 = .ok (.iaload, 1) := by decide +kernel
theorem dX5_isJoined_34 : decode cX5_isJoined 34 = .ok (.aaload, 1) := by decide +kernel
theorem dX5_isJoined_35 : decode cX5_isJoined 35 = .ok (.astore_n 3, 1) := by decide +kernel
theorem dX5_isJoined_36 : decode cX5_isJoined 36 = .ok (.aload_n 2, 1) := by decide +kernel
theorem dX5_isJoined_37 : decode cX5_isJoined 37 = .ok (.getfield 111, 3) := by decide +kernel
theorem dX5_isJoined_40 : decode cX5_isJoined 40 = .ok (.aload_n 1, 1) := by decide +kernel
theorem dX5_isJoined_41 : decode cX5_isJoined 41 = .ok (.getfield 56, 3) := by decide +kernel
theorem dX5_isJoined_44 : decode cX5_isJoined 44 = .ok (.baload, 1) := by decide +kernel
theorem dX5_isJoined_45 : decode cX5_isJoined 45 = .ok (.ifCond .eq 41, 3) := by decide +kernel
theorem dX5_isJoined_48 : decode cX5_isJoined 48 = .ok (.aload_n 3, 1) := by decide +kernel
theorem dX5_isJoined_49 : decode cX5_isJoined 49 = .ok (.getfield 111, 3) := by decide +kernel
theorem dX5_isJoined_52 : decode cX5_isJoined 52 = .ok (.aload_n 1, 1) := by decide +kernel
theorem dX5_isJoined_53 : decode cX5_isJoined 53 = .ok (.getfield 62, 3) := by decide +kernel
theorem dX5_isJoined_56 : decode cX5_isJoined 56 = .ok (.baload, 1) := by decide +kernel
theorem dX5_isJoined_57 : decode cX5_isJoined 57 = .ok (.ifCond .eq 29, 3) := by decide +kernel
theorem dX5_isJoined_60 : decode cX5_isJoined 60 = .ok (.aload_n 2, 1) := by decide +kernel
theorem dX5_isJoined_61 : decode cX5_isJoined 61 = .ok (.getfield 114, 3) := by decide +kernel
theorem dX5_isJoined_64 : decode cX5_isJoined 64 = .ok (.aload_n 1, 1) := by decide +kernel
theorem dX5_isJoined_65 : decode cX5_isJoined 65 = .ok (.getfield 56, 3) := by decide +kernel
theorem dX5_isJoined_68 : decode cX5_isJoined 68 = .ok (.laload, 1) := by decide +kernel
theorem dX5_isJoined_69 : decode cX5_isJoined 69 = .ok (.aload_n 3, 1) := by decide +kernel
theorem dX5_isJoined_70 : decode cX5_isJoined 70 = .ok (.getfield 114, 3) := by decide +kernel
theorem dX5_isJoined_73 : decode cX5_isJoined 73 = .ok (.aload_n 1, 1) := by decide +kernel
theorem dX5_isJoined_74 : decode cX5_isJoined 74 = .ok (.getfield 62, 3) := by decide +kernel
theorem dX5_isJoined_77 : decode cX5_isJoined 77 = .ok (.laload, 1) := by decide +kernel
theorem dX5_isJoined_78 : decode cX5_isJoined 78 = .ok (.lcmp, 1) := by decide +kernel
theorem dX5_isJoined_79 : decode cX5_isJoined 79 = .ok (.ifCond .ne 7, 3) := by decide +kernel
theorem dX5_isJoined_82 : decode cX5_isJoined 82 = .ok (.iconst 1, 1) := by decide +kernel
theorem dX5_isJoined_83 : decode cX5_isJoined 83 = .ok (.goto 4, 3) := by decide +kernel
theorem dX5_isJoined_86 : decode cX5_isJoined 86 = .ok (.iconst 0, 1) := by decide +kernel
theorem dX5_isJoined_87 : decode cX5_isJoined 87 = .ok (.ireturn, 1) := by decide +kernel
theorem dX5_triedRows_0 : decode cX5_triedRows 0 = .ok (.iconst 0, 1) := by decide +kernel
theorem dX5_triedRows_1 : decode cX5_triedRows 1 = .ok (.istore_n 1, 1) := by decide +kernel
theorem dX5_triedRows_2 : decode cX5_triedRows 2 = .ok (.iconst 0, 1) := by decide +kernel
theorem dX5_triedRows_3 : decode cX5_triedRows 3 = .ok (.istore_n 2, 1) := by decide +kernel
theorem dX5_triedRows_4 : decode cX5_triedRows 4 = .ok (.iload_n 2, 1) := by decide +kernel
theorem dX5_triedRows_5 : decode cX5_triedRows 5 = .ok (.aload_n 0, 1) := by decide +kernel
theorem dX5_triedRows_6 : decode cX5_triedRows 6 = .ok (.getfield 40, 3) := by decide +kernel
theorem dX5_triedRows_9 : decode cX5_triedRows 9 = .ok (.if_icmp .ge 20, 3) := by decide +kernel
theorem dX5_triedRows_12 : decode cX5_triedRows 12 = .ok (.iload_n 1, 1) := by decide +kernel
theorem dX5_triedRows_13 : decode cX5_triedRows 13 = .ok (.iconst 1, 1) := by decide +kernel
theorem dX5_triedRows_14 : decode cX5_triedRows 14 = .ok (.aload_n 0, 1) := by decide +kernel
theorem dX5_triedRows_15 : decode cX5_triedRows 15 = .ok (.getfield 27, 3) := by decide +kernel
theorem dX5_triedRows_18 : decode cX5_triedRows 18 = .ok (.iload_n 2, 1) := by decide +kernel
theorem dX5_triedRows_19 : decode cX5_triedRows 19 = .ok (.iaload, 1) := by decide +kernel
theorem dX5_triedRows_20 : decode cX5_triedRows 20 = .ok (.ishl, 1) := by decide +kernel
theorem dX5_triedRows_21 : decode cX5_triedRows 21 = .ok (.ior, 1) := by decide +kernel
theorem dX5_triedRows_22 : decode cX5_triedRows 22 = .ok (.istore_n 1, 1) := by decide +kernel
theorem dX5_triedRows_23 : decode cX5_triedRows 23 = .ok (.iinc 2 1, 3) := by decide +kernel
theorem dX5_triedRows_26 : decode cX5_triedRows 26 = .ok (.goto (-22), 3) := by decide +kernel
theorem dX5_triedRows_29 : decode cX5_triedRows 29 = .ok (.iload_n 1, 1) := by decide +kernel
theorem dX5_triedRows_30 : decode cX5_triedRows 30 = .ok (.ireturn, 1) := by decide +kernel
theorem dX6_init_0 : decode cX6_init 0 = .ok (.aload_n 0, 1) := by decide +kernel
theorem dX6_init_1 : decode cX6_init 1 = .ok (.invokespecial 3, 3) := by decide +kernel
theorem dX6_init_4 : decode cX6_init 4 = .ok (.aload_n 0, 1) := by decide +kernel
theorem dX6_init_5 : decode cX6_init 5 = .ok (.bipush 6, 2) := by decide +kernel
theorem dX6_init_7 : decode cX6_init 7 = .ok (.newarray .long, 2) := by decide +kernel
theorem dX6_init_9 : decode cX6_init 9 = .ok (.putfield 9, 3) := by decide +kernel
theorem dX6_init_12 : decode cX6_init 12 = .ok (.aload_n 0, 1) := by decide +kernel
theorem dX6_init_13 : decode cX6_init 13 = .ok (.bipush 6, 2) := by decide +kernel
theorem dX6_init_15 : decode cX6_init 15 = .ok (.newarray .boolean, 2) := by decide +kernel
theorem dX6_init_17 : decode cX6_init 17 = .ok (.putfield 15, 3) := by decide +kernel
theorem dX6_init_20 : decode cX6_init 20 = .ok (.return_, 1) := by decide +kernel
theorem dX7_init_0 : decode cX7_init 0 = .ok (.aload_n 0, 1) := by decide +kernel
theorem dX7_init_1 : decode cX7_init 1 = .ok (.invokespecial 3, 3) := by decide +kernel
theorem dX7_init_4 : decode cX7_init 4 = .ok (.aload_n 0, 1) := by decide +kernel
theorem dX7_init_5 : decode cX7_init 5 = .ok (.bipush 12, 2) := by decide +kernel
theorem dX7_init_7 : decode cX7_init 7 = .ok (.anewarray 9, 3) := by decide +kernel
theorem dX7_init_10 : decode cX7_init 10 = .ok (.putfield 11, 3) := by decide +kernel
theorem dX7_init_13 : decode cX7_init 13 = .ok (.iconst 0, 1) := by decide +kernel
theorem dX7_init_14 : decode cX7_init 14 = .ok (.istore_n 1, 1) := by decide +kernel
theorem dX7_init_15 : decode cX7_init 15 = .ok (.iload_n 1, 1) := by decide +kernel
theorem dX7_init_16 : decode cX7_init 16 = .ok (.bipush 12, 2) := by decide +kernel
theorem dX7_init_18 : decode cX7_init 18 = .ok (.if_icmp .ge 22, 3) := by decide +kernel
theorem dX7_init_21 : decode cX7_init 21 = .ok (.aload_n 0, 1) := by decide +kernel
theorem dX7_init_22 : decode cX7_init 22 = .ok (.getfield 11, 3) := by decide +kernel
theorem dX7_init_25 : decode cX7_init 25 = .ok (.iload_n 1, 1) := by decide +kernel
theorem dX7_init_26 : decode cX7_init 26 = .ok (.new 9, 3) := by decide +kernel
theorem dX7_init_29 : decode cX7_init 29 = .ok (.dup, 1) := by decide +kernel
theorem dX7_init_30 : decode cX7_init 30 = .ok (.invokespecial 17, 3) := by decide +kernel
theorem dX7_init_33 : decode cX7_init 33 = .ok (.aastore, 1) := by decide +kernel
theorem dX7_init_34 : decode cX7_init 34 = .ok (.iinc 1 1, 3) := by decide +kernel
theorem dX7_init_37 : decode cX7_init 37 = .ok (.goto (-22), 3) := by decide +kernel
theorem dX7_init_40 : decode cX7_init 40 = .ok (.return_, 1) := by decide +kernel
theorem dX7_add_0 : decode cX7_add 0 = .ok (.aload_n 0, 1) := by decide +kernel
theorem dX7_add_1 : decode cX7_add 1 = .ok (.getfield 11, 3) := by decide +kernel
theorem dX7_add_4 : decode cX7_add 4 = .ok (.aload_n 0, 1) := by decide +kernel
theorem dX7_add_5 : decode cX7_add 5 = .ok (.getfield 18, 3) := by decide +kernel
theorem dX7_add_8 : decode cX7_add 8 = .ok (.aaload, 1) := by decide +kernel
theorem dX7_add_9 : decode cX7_add 9 = .ok (.iload_n 1, 1) := by decide +kernel
theorem dX7_add_10 : decode cX7_add 10 = .ok (.putfield 22, 3) := by decide +kernel
theorem dX7_add_13 : decode cX7_add 13 = .ok (.aload_n 0, 1) := by decide +kernel
theorem dX7_add_14 : decode cX7_add 14 = .ok (.getfield 11, 3) := by decide +kernel
theorem dX7_add_17 : decode cX7_add 17 = .ok (.aload_n 0, 1) := by decide +kernel
theorem dX7_add_18 : decode cX7_add 18 = .ok (.getfield 18, 3) := by decide +kernel
theorem dX7_add_21 : decode cX7_add 21 = .ok (.aaload, 1) := by decide +kernel
theorem dX7_add_22 : decode cX7_add 22 = .ok (.iload_n 2, 1) := by decide +kernel
theorem dX7_add_23 : decode cX7_add 23 = .ok (.putfield 25, 3) := by decide +kernel
theorem dX7_add_26 : decode cX7_add 26 = .ok (.aload_n 0, 1) := by decide +kernel
theorem dX7_add_27 : decode cX7_add 27 = .ok (.getfield 11, 3) := by decide +kernel
theorem dX7_add_30 : decode cX7_add 30 = .ok (.aload_n 0, 1) := by decide +kernel
theorem dX7_add_31 : decode cX7_add 31 = .ok (.getfield 18, 3) := by decide +kernel
theorem dX7_add_34 : decode cX7_add 34 = .ok (.aaload, 1) := by decide +kernel
theorem dX7_add_35 : decode cX7_add 35 = .ok (.iconst 1, 1) := by decide +kernel
theorem dX7_add_36 : decode cX7_add 36 = .ok (.putfield 28, 3) := by decide +kernel
theorem dX7_add_39 : decode cX7_add 39 = .ok (.aload_n 0, 1) := by decide +kernel
theorem dX7_add_40 : decode cX7_add 40 = .ok (.dup, 1) := by decide +kernel
theorem dX7_add_41 : decode cX7_add 41 = .ok (.getfield 18, 3) := by decide +kernel
theorem dX7_add_44 : decode cX7_add 44 = .ok (.iconst 1, 1) := by decide +kernel
theorem dX7_add_45 : decode cX7_add 45 = .ok (.iadd, 1) := by decide +kernel
theorem dX7_add_46 : decode cX7_add 46 = .ok (.putfield 18, 3) := by decide +kernel
theorem dX7_add_49 : decode cX7_add 49 = .ok (.aload_n 0, 1) := by decide +kernel
theorem dX7_add_50 : decode cX7_add 50 = .ok (.getfield 18, 3) := by decide +kernel
theorem dX7_add_53 : decode cX7_add 53 = .ok (.iconst 1, 1) := by decide +kernel
theorem dX7_add_54 : decode cX7_add 54 = .ok (.isub, 1) := by decide +kernel
theorem dX7_add_55 : decode cX7_add 55 = .ok (.ireturn, 1) := by decide +kernel
theorem dX7_kept_0 : decode cX7_kept 0 = .ok (.iconst 0, 1) := by decide +kernel
theorem dX7_kept_1 : decode cX7_kept 1 = .ok (.istore_n 1, 1) := by decide +kernel
theorem dX7_kept_2 : decode cX7_kept 2 = .ok (.iconst 0, 1) := by decide +kernel
theorem dX7_kept_3 : decode cX7_kept 3 = .ok (.istore_n 2, 1) := by decide +kernel
theorem dX7_kept_4 : decode cX7_kept 4 = .ok (.iload_n 2, 1) := by decide +kernel
theorem dX7_kept_5 : decode cX7_kept 5 = .ok (.aload_n 0, 1) := by decide +kernel
theorem dX7_kept_6 : decode cX7_kept 6 = .ok (.getfield 18, 3) := by decide +kernel
theorem dX7_kept_9 : decode cX7_kept 9 = .ok (.if_icmp .ge 27, 3) := by decide +kernel
theorem dX7_kept_12 : decode cX7_kept 12 = .ok (.aload_n 0, 1) := by decide +kernel
theorem dX7_kept_13 : decode cX7_kept 13 = .ok (.getfield 11, 3) := by decide +kernel
theorem dX7_kept_16 : decode cX7_kept 16 = .ok (.iload_n 2, 1) := by decide +kernel
theorem dX7_kept_17 : decode cX7_kept 17 = .ok (.aaload, 1) := by decide +kernel
theorem dX7_kept_18 : decode cX7_kept 18 = .ok (.getfield 28, 3) := by decide +kernel
theorem dX7_kept_21 : decode cX7_kept 21 = .ok (.ifCond .eq 9, 3) := by decide +kernel
theorem dX7_kept_24 : decode cX7_kept 24 = .ok (.iload_n 1, 1) := by decide +kernel
theorem dX7_kept_25 : decode cX7_kept 25 = .ok (.iconst 1, 1) := by decide +kernel
theorem dX7_kept_26 : decode cX7_kept 26 = .ok (.iload_n 2, 1) := by decide +kernel
theorem dX7_kept_27 : decode cX7_kept 27 = .ok (.ishl, 1) := by decide +kernel
theorem dX7_kept_28 : decode cX7_kept 28 = .ok (.ior, 1) := by decide +kernel
theorem dX7_kept_29 : decode cX7_kept 29 = .ok (.istore_n 1, 1) := by decide +kernel
theorem dX7_kept_30 : decode cX7_kept 30 = .ok (.iinc 2 1, 3) := by decide +kernel
theorem dX7_kept_33 : decode cX7_kept 33 = .ok (.goto (-29), 3) := by decide +kernel
theorem dX7_kept_36 : decode cX7_kept 36 = .ok (.iload_n 1, 1) := by decide +kernel
theorem dX7_kept_37 : decode cX7_kept 37 = .ok (.ireturn, 1) := by decide +kernel
theorem dX7_drop_0 : decode cX7_drop 0 = .ok (.iconst 0, 1) := by decide +kernel
theorem dX7_drop_1 : decode cX7_drop 1 = .ok (.istore_n 2, 1) := by decide +kernel
theorem dX7_drop_2 : decode cX7_drop 2 = .ok (.iload_n 2, 1) := by decide +kernel
theorem dX7_drop_3 : decode cX7_drop 3 = .ok (.aload_n 0, 1) := by decide +kernel
theorem dX7_drop_4 : decode cX7_drop 4 = .ok (.getfield 18, 3) := by decide +kernel
theorem dX7_drop_7 : decode cX7_drop 7 = .ok (.if_icmp .ge 27, 3) := by decide +kernel
theorem dX7_drop_10 : decode cX7_drop 10 = .ok (.iload_n 1, 1) := by decide +kernel
theorem dX7_drop_11 : decode cX7_drop 11 = .ok (.iload_n 2, 1) := by decide +kernel
theorem dX7_drop_12 : decode cX7_drop 12 = .ok (.invokestatic 32, 3) := by decide +kernel
theorem dX7_drop_15 : decode cX7_drop 15 = .ok (.ifCond .eq 13, 3) := by decide +kernel
theorem dX7_drop_18 : decode cX7_drop 18 = .ok (.aload_n 0, 1) := by decide +kernel
theorem dX7_drop_19 : decode cX7_drop 19 = .ok (.getfield 11, 3) := by decide +kernel
theorem dX7_drop_22 : decode cX7_drop 22 = .ok (.iload_n 2, 1) := by decide +kernel
theorem dX7_drop_23 : decode cX7_drop 23 = .ok (.aaload, 1) := by decide +kernel
theorem dX7_drop_24 : decode cX7_drop 24 = .ok (.iconst 0, 1) := by decide +kernel
theorem dX7_drop_25 : decode cX7_drop 25 = .ok (.putfield 28, 3) := by decide +kernel
theorem dX7_drop_28 : decode cX7_drop 28 = .ok (.iinc 2 1, 3) := by decide +kernel
theorem dX7_drop_31 : decode cX7_drop 31 = .ok (.goto (-29), 3) := by decide +kernel
theorem dX7_drop_34 : decode cX7_drop 34 = .ok (.return_, 1) := by decide +kernel
theorem dX7_manyOf_0 : decode cX7_manyOf 0 = .ok (.iconst 0, 1) := by decide +kernel
theorem dX7_manyOf_1 : decode cX7_manyOf 1 = .ok (.istore_n 2, 1) := by decide +kernel
theorem dX7_manyOf_2 : decode cX7_manyOf 2 = .ok (.iconst 0, 1) := by decide +kernel
theorem dX7_manyOf_3 : decode cX7_manyOf 3 = .ok (.istore_n 3, 1) := by decide +kernel
theorem dX7_manyOf_4 : decode cX7_manyOf 4 = .ok (.iload_n 3, 1) := by decide +kernel
theorem dX7_manyOf_5 : decode cX7_manyOf 5 = .ok (.aload_n 0, 1) := by decide +kernel
theorem dX7_manyOf_6 : decode cX7_manyOf 6 = .ok (.getfield 18, 3) := by decide +kernel
theorem dX7_manyOf_9 : decode cX7_manyOf 9 = .ok (.if_icmp .ge 33, 3) := by decide +kernel
theorem dX7_manyOf_12 : decode cX7_manyOf 12 = .ok (.iload_n 2, 1) := by decide +kernel
theorem dX7_manyOf_13 : decode cX7_manyOf 13 = .ok (.aload_n 0, 1) := by decide +kernel
theorem dX7_manyOf_14 : decode cX7_manyOf 14 = .ok (.getfield 11, 3) := by decide +kernel
theorem dX7_manyOf_17 : decode cX7_manyOf 17 = .ok (.iload_n 3, 1) := by decide +kernel
theorem dX7_manyOf_18 : decode cX7_manyOf 18 = .ok (.aaload, 1) := by decide +kernel
theorem dX7_manyOf_19 : decode cX7_manyOf 19 = .ok (.getfield 22, 3) := by decide +kernel
theorem dX7_manyOf_22 : decode cX7_manyOf 22 = .ok (.iload_n 1, 1) := by decide +kernel
theorem dX7_manyOf_23 : decode cX7_manyOf 23 = .ok (.if_icmp .ne 7, 3) := by decide +kernel
theorem dX7_manyOf_26 : decode cX7_manyOf 26 = .ok (.iconst 1, 1) := by decide +kernel
theorem dX7_manyOf_27 : decode cX7_manyOf 27 = .ok (.goto 4, 3) := by decide +kernel
theorem dX7_manyOf_30 : decode cX7_manyOf 30 = .ok (.iconst 0, 1) := by decide +kernel
theorem dX7_manyOf_31 : decode cX7_manyOf 31 = .ok (.invokestatic 36, 3) := by decide +kernel
theorem dX7_manyOf_34 : decode cX7_manyOf 34 = .ok (.iadd, 1) := by decide +kernel
theorem dX7_manyOf_35 : decode cX7_manyOf 35 = .ok (.istore_n 2, 1) := by decide +kernel
theorem dX7_manyOf_36 : decode cX7_manyOf 36 = .ok (.iinc 3 1, 3) := by decide +kernel
theorem dX7_manyOf_39 : decode cX7_manyOf 39 = .ok (.goto (-35), 3) := by decide +kernel
theorem dX7_manyOf_42 : decode cX7_manyOf 42 = .ok (.iload_n 2, 1) := by decide +kernel
theorem dX7_manyOf_43 : decode cX7_manyOf 43 = .ok (.ireturn, 1) := by decide +kernel
theorem dX7_trustOf_0 : decode cX7_trustOf 0 = .ok (.iconst 0, 1) := by decide +kernel
theorem dX7_trustOf_1 : decode cX7_trustOf 1 = .ok (.istore_n 2, 1) := by decide +kernel
theorem dX7_trustOf_2 : decode cX7_trustOf 2 = .ok (.iconst 0, 1) := by decide +kernel
theorem dX7_trustOf_3 : decode cX7_trustOf 3 = .ok (.istore_n 3, 1) := by decide +kernel
theorem dX7_trustOf_4 : decode cX7_trustOf 4 = .ok (.iload_n 3, 1) := by decide +kernel
theorem dX7_trustOf_5 : decode cX7_trustOf 5 = .ok (.aload_n 0, 1) := by decide +kernel
theorem dX7_trustOf_6 : decode cX7_trustOf 6 = .ok (.getfield 18, 3) := by decide +kernel
theorem dX7_trustOf_9 : decode cX7_trustOf 9 = .ok (.if_icmp .ge 29, 3) := by decide +kernel
theorem dX7_trustOf_12 : decode cX7_trustOf 12 = .ok (.iload_n 1, 1) := by decide +kernel
theorem dX7_trustOf_13 : decode cX7_trustOf 13 = .ok (.iload_n 3, 1) := by decide +kernel
theorem dX7_trustOf_14 : decode cX7_trustOf 14 = .ok (.invokestatic 32, 3) := by decide +kernel
theorem dX7_trustOf_17 : decode cX7_trustOf 17 = .ok (.ifCond .eq 15, 3) := by decide +kernel
theorem dX7_trustOf_20 : decode cX7_trustOf 20 = .ok (.iload_n 2, 1) := by decide +kernel
theorem dX7_trustOf_21 : decode cX7_trustOf 21 = .ok (.aload_n 0, 1) := by decide +kernel
theorem dX7_trustOf_22 : decode cX7_trustOf 22 = .ok (.getfield 11, 3) := by decide +kernel
theorem dX7_trustOf_25 : decode cX7_trustOf 25 = .ok (.iload_n 3, 1) := by decide +kernel
theorem dX7_trustOf_26 : decode cX7_trustOf 26 = .ok (.aaload, 1) := by decide +kernel
theorem dX7_trustOf_27 : decode cX7_trustOf 27 = .ok (.getfield 25, 3) := by decide +kernel
theorem dX7_trustOf_30 : decode cX7_trustOf 30 = .ok (.iadd, 1) := by decide +kernel
theorem dX7_trustOf_31 : decode cX7_trustOf 31 = .ok (.istore_n 2, 1) := by decide +kernel
theorem dX7_trustOf_32 : decode cX7_trustOf 32 = .ok (.iinc 3 1, 3) := by decide +kernel
theorem dX7_trustOf_35 : decode cX7_trustOf 35 = .ok (.goto (-31), 3) := by decide +kernel
theorem dX7_trustOf_38 : decode cX7_trustOf 38 = .ok (.iload_n 2, 1) := by decide +kernel
theorem dX7_trustOf_39 : decode cX7_trustOf 39 = .ok (.ireturn, 1) := by decide +kernel
theorem dX7_withCell_0 : decode cX7_withCell 0 = .ok (.iconst 0, 1) := by decide +kernel
theorem dX7_withCell_1 : decode cX7_withCell 1 = .ok (.istore 4, 2) := by decide +kernel
theorem dX7_withCell_3 : decode cX7_withCell 3 = .ok (.iconst 0, 1) := by decide +kernel
theorem dX7_withCell_4 : decode cX7_withCell 4 = .ok (.istore 5, 2) := by decide +kernel
theorem dX7_withCell_6 : decode cX7_withCell 6 = .ok (.iload 5, 2) := by decide +kernel
theorem dX7_withCell_8 : decode cX7_withCell 8 = .ok (.aload_n 0, 1) := by decide +kernel
theorem dX7_withCell_9 : decode cX7_withCell 9 = .ok (.getfield 18, 3) := by decide +kernel
theorem dX7_withCell_12 : decode cX7_withCell 12 = .ok (.if_icmp .ge 56, 3) := by decide +kernel
theorem dX7_withCell_15 : decode cX7_withCell 15 = .ok (.iload_n 3, 1) := by decide +kernel
theorem dX7_withCell_16 : decode cX7_withCell 16 = .ok (.iload 5, 2) := by decide +kernel
theorem dX7_withCell_18 : decode cX7_withCell 18 = .ok (.invokestatic 32, 3) := by decide +kernel
theorem dX7_withCell_21 : decode cX7_withCell 21 = .ok (.ifCond .eq 41, 3) := by decide +kernel
theorem dX7_withCell_24 : decode cX7_withCell 24 = .ok (.aload_n 0, 1) := by decide +kernel
theorem dX7_withCell_25 : decode cX7_withCell 25 = .ok (.getfield 11, 3) := by decide +kernel
theorem dX7_withCell_28 : decode cX7_withCell 28 = .ok (.iload 5, 2) := by decide +kernel
theorem dX7_withCell_30 : decode cX7_withCell 30 = .ok (.aaload, 1) := by decide +kernel
theorem dX7_withCell_31 : decode cX7_withCell 31 = .ok (.getfield 22, 3) := by decide +kernel
theorem dX7_withCell_34 : decode cX7_withCell 34 = .ok (.iload_n 1, 1) := by decide +kernel
theorem dX7_withCell_35 : decode cX7_withCell 35 = .ok (.if_icmp .ne 27, 3) := by decide +kernel
theorem dX7_withCell_38 : decode cX7_withCell 38 = .ok (.aload_n 0, 1) := by decide +kernel
theorem dX7_withCell_39 : decode cX7_withCell 39 = .ok (.getfield 11, 3) := by decide +kernel
theorem dX7_withCell_42 : decode cX7_withCell 42 = .ok (.iload 5, 2) := by decide +kernel
theorem dX7_withCell_44 : decode cX7_withCell 44 = .ok (.aaload, 1) := by decide +kernel
theorem dX7_withCell_45 : decode cX7_withCell 45 = .ok (.getfield 40, 3) := by decide +kernel
theorem dX7_withCell_48 : decode cX7_withCell 48 = .ok (.iload_n 2, 1) := by decide +kernel
theorem dX7_withCell_49 : decode cX7_withCell 49 = .ok (.baload, 1) := by decide +kernel
theorem dX7_withCell_50 : decode cX7_withCell 50 = .ok (.ifCond .eq 12, 3) := by decide +kernel
theorem dX7_withCell_53 : decode cX7_withCell 53 = .ok (.iload 4, 2) := by decide +kernel
theorem dX7_withCell_55 : decode cX7_withCell 55 = .ok (.iconst 1, 1) := by decide +kernel
theorem dX7_withCell_56 : decode cX7_withCell 56 = .ok (.iload 5, 2) := by decide +kernel
theorem dX7_withCell_58 : decode cX7_withCell 58 = .ok (.ishl, 1) := by decide +kernel
theorem dX7_withCell_59 : decode cX7_withCell 59 = .ok (.ior, 1) := by decide +kernel
theorem dX7_withCell_60 : decode cX7_withCell 60 = .ok (.istore 4, 2) := by decide +kernel
theorem dX7_withCell_62 : decode cX7_withCell 62 = .ok (.iinc 5 1, 3) := by decide +kernel
theorem dX7_withCell_65 : decode cX7_withCell 65 = .ok (.goto (-59), 3) := by decide +kernel
theorem dX7_withCell_68 : decode cX7_withCell 68 = .ok (.iload 4, 2) := by decide +kernel
theorem dX7_withCell_70 : decode cX7_withCell 70 = .ok (.ireturn, 1) := by decide +kernel
theorem dX7_withNumber_0 : decode cX7_withNumber 0 = .ok (.iconst 0, 1) := by decide +kernel
theorem dX7_withNumber_1 : decode cX7_withNumber 1 = .ok (.istore 6, 2) := by decide +kernel
theorem dX7_withNumber_3 : decode cX7_withNumber 3 = .ok (.iconst 0, 1) := by decide +kernel
theorem dX7_withNumber_4 : decode cX7_withNumber 4 = .ok (.istore 7, 2) := by decide +kernel
theorem dX7_withNumber_6 : decode cX7_withNumber 6 = .ok (.iload 7, 2) := by decide +kernel
theorem dX7_withNumber_8 : decode cX7_withNumber 8 = .ok (.aload_n 0, 1) := by decide +kernel
theorem dX7_withNumber_9 : decode cX7_withNumber 9 = .ok (.getfield 18, 3) := by decide +kernel
theorem dX7_withNumber_12 : decode cX7_withNumber 12 = .ok (.if_icmp .ge 68, 3) := by decide +kernel
theorem dX7_withNumber_15 : decode cX7_withNumber 15 = .ok (.aload_n 0, 1) := by decide +kernel
theorem dX7_withNumber_16 : decode cX7_withNumber 16 = .ok (.getfield 11, 3) := by decide +kernel
theorem dX7_withNumber_19 : decode cX7_withNumber 19 = .ok (.iload 7, 2) := by decide +kernel
theorem dX7_withNumber_21 : decode cX7_withNumber 21 = .ok (.aaload, 1) := by decide +kernel
theorem dX7_withNumber_22 : decode cX7_withNumber 22 = .ok (.astore 8, 2) := by decide +kernel
theorem dX7_withNumber_24 : decode cX7_withNumber 24 = .ok (.iload 5, 2) := by decide +kernel
theorem dX7_withNumber_26 : decode cX7_withNumber 26 = .ok (.iload 7, 2) := by decide +kernel
theorem dX7_withNumber_28 : decode cX7_withNumber 28 = .ok (.invokestatic 32, 3) := by decide +kernel
theorem dX7_withNumber_31 : decode cX7_withNumber 31 = .ok (.ifCond .eq 43, 3) := by decide +kernel
theorem dX7_withNumber_34 : decode cX7_withNumber 34 = .ok (.aload 8, 2) := by decide +kernel
theorem dX7_withNumber_36 : decode cX7_withNumber 36 = .ok (.getfield 22, 3) := by decide +kernel
theorem dX7_withNumber_39 : decode cX7_withNumber 39 = .ok (.iload_n 1, 1) := by decide +kernel
theorem dX7_withNumber_40 : decode cX7_withNumber 40 = .ok (.if_icmp .ne 34, 3) := by decide +kernel
theorem dX7_withNumber_43 : decode cX7_withNumber 43 = .ok (.aload 8, 2) := by decide +kernel
theorem dX7_withNumber_45 : decode cX7_withNumber 45 = .ok (.getfield 40, 3) := by decide +kernel
theorem dX7_withNumber_48 : decode cX7_withNumber 48 = .ok (.iload_n 2, 1) := by decide +kernel
theorem dX7_withNumber_49 : decode cX7_withNumber 49 = .ok (.baload, 1) := by decide +kernel
theorem dX7_withNumber_50 : decode cX7_withNumber 50 = .ok (.ifCond .eq 24, 3) := by decide +kernel
theorem dX7_withNumber_53 : decode cX7_withNumber 53 = .ok (.aload 8, 2) := by decide +kernel
theorem dX7_withNumber_55 : decode cX7_withNumber 55 = .ok (.getfield 44, 3) := by decide +kernel
theorem dX7_withNumber_58 : decode cX7_withNumber 58 = .ok (.iload_n 2, 1) := by decide +kernel
theorem dX7_withNumber_59 : decode cX7_withNumber 59 = .ok (.laload, 1) := by decide +kernel
theorem dX7_withNumber_60 : decode cX7_withNumber 60 = .ok (.lload_n 3, 1) := by decide +kernel
theorem dX7_withNumber_61 : decode cX7_withNumber 61 = .ok (.lcmp, 1) := by decide +kernel
theorem dX7_withNumber_62 : decode cX7_withNumber 62 = .ok (.ifCond .ne 12, 3) := by decide +kernel
theorem dX7_withNumber_65 : decode cX7_withNumber 65 = .ok (.iload 6, 2) := by decide +kernel
theorem dX7_withNumber_67 : decode cX7_withNumber 67 = .ok (.iconst 1, 1) := by decide +kernel
theorem dX7_withNumber_68 : decode cX7_withNumber 68 = .ok (.iload 7, 2) := by decide +kernel
theorem dX7_withNumber_70 : decode cX7_withNumber 70 = .ok (.ishl, 1) := by decide +kernel
theorem dX7_withNumber_71 : decode cX7_withNumber 71 = .ok (.ior, 1) := by decide +kernel
theorem dX7_withNumber_72 : decode cX7_withNumber 72 = .ok (.istore 6, 2) := by decide +kernel
theorem dX7_withNumber_74 : decode cX7_withNumber 74 = .ok (.iinc 7 1, 3) := by decide +kernel
theorem dX7_withNumber_77 : decode cX7_withNumber 77 = .ok (.goto (-71), 3) := by decide +kernel
theorem dX7_withNumber_80 : decode cX7_withNumber 80 = .ok (.iload 6, 2) := by decide +kernel
theorem dX7_withNumber_82 : decode cX7_withNumber 82 = .ok (.ireturn, 1) := by decide +kernel
theorem dX7_aboveZero_0 : decode cX7_aboveZero 0 = .ok (.iconst 0, 1) := by decide +kernel
theorem dX7_aboveZero_1 : decode cX7_aboveZero 1 = .ok (.istore_n 3, 1) := by decide +kernel
theorem dX7_aboveZero_2 : decode cX7_aboveZero 2 = .ok (.iconst 0, 1) := by decide +kernel
theorem dX7_aboveZero_3 : decode cX7_aboveZero 3 = .ok (.istore 4, 2) := by decide +kernel
theorem dX7_aboveZero_5 : decode cX7_aboveZero 5 = .ok (.iload 4, 2) := by decide +kernel
theorem dX7_aboveZero_7 : decode cX7_aboveZero 7 = .ok (.aload_n 0, 1) := by decide +kernel
theorem dX7_aboveZero_8 : decode cX7_aboveZero 8 = .ok (.getfield 18, 3) := by decide +kernel
theorem dX7_aboveZero_11 : decode cX7_aboveZero 11 = .ok (.if_icmp .ge 42, 3) := by decide +kernel
theorem dX7_aboveZero_14 : decode cX7_aboveZero 14 = .ok (.iload_n 2, 1) := by decide +kernel
theorem dX7_aboveZero_15 : decode cX7_aboveZero 15 = .ok (.iload 4, 2) := by decide +kernel
theorem dX7_aboveZero_17 : decode cX7_aboveZero 17 = .ok (.invokestatic 32, 3) := by decide +kernel
theorem dX7_aboveZero_20 : decode cX7_aboveZero 20 = .ok (.ifCond .eq 27, 3) := by decide +kernel
theorem dX7_aboveZero_23 : decode cX7_aboveZero 23 = .ok (.aload_n 0, 1) := by decide +kernel
theorem dX7_aboveZero_24 : decode cX7_aboveZero 24 = .ok (.getfield 11, 3) := by decide +kernel
theorem dX7_aboveZero_27 : decode cX7_aboveZero 27 = .ok (.iload 4, 2) := by decide +kernel
theorem dX7_aboveZero_29 : decode cX7_aboveZero 29 = .ok (.aaload, 1) := by decide +kernel
theorem dX7_aboveZero_30 : decode cX7_aboveZero 30 = .ok (.getfield 44, 3) := by decide +kernel
theorem dX7_aboveZero_33 : decode cX7_aboveZero 33 = .ok (.iload_n 1, 1) := by decide +kernel
theorem dX7_aboveZero_34 : decode cX7_aboveZero 34 = .ok (.laload, 1) := by decide +kernel
theorem dX7_aboveZero_35 : decode cX7_aboveZero 35 = .ok (.lconst 0, 1) := by decide +kernel
theorem dX7_aboveZero_36 : decode cX7_aboveZero 36 = .ok (.lcmp, 1) := by decide +kernel
theorem dX7_aboveZero_37 : decode cX7_aboveZero 37 = .ok (.ifCond .le 10, 3) := by decide +kernel
theorem dX7_aboveZero_40 : decode cX7_aboveZero 40 = .ok (.iload_n 3, 1) := by decide +kernel
theorem dX7_aboveZero_41 : decode cX7_aboveZero 41 = .ok (.iconst 1, 1) := by decide +kernel
theorem dX7_aboveZero_42 : decode cX7_aboveZero 42 = .ok (.iload 4, 2) := by decide +kernel
theorem dX7_aboveZero_44 : decode cX7_aboveZero 44 = .ok (.ishl, 1) := by decide +kernel
theorem dX7_aboveZero_45 : decode cX7_aboveZero 45 = .ok (.ior, 1) := by decide +kernel
theorem dX7_aboveZero_46 : decode cX7_aboveZero 46 = .ok (.istore_n 3, 1) := by decide +kernel
theorem dX7_aboveZero_47 : decode cX7_aboveZero 47 = .ok (.iinc 4 1, 3) := by decide +kernel
theorem dX7_aboveZero_50 : decode cX7_aboveZero 50 = .ok (.goto (-45), 3) := by decide +kernel
theorem dX7_aboveZero_53 : decode cX7_aboveZero 53 = .ok (.iload_n 3, 1) := by decide +kernel
theorem dX7_aboveZero_54 : decode cX7_aboveZero 54 = .ok (.ireturn, 1) := by decide +kernel
theorem dX7_added_0 : decode cX7_added 0 = .ok (.aload_n 0, 1) := by decide +kernel
theorem dX7_added_1 : decode cX7_added 1 = .ok (.iload_n 1, 1) := by decide +kernel
theorem dX7_added_2 : decode cX7_added 2 = .ok (.iload_n 2, 1) := by decide +kernel
theorem dX7_added_3 : decode cX7_added 3 = .ok (.iload_n 3, 1) := by decide +kernel
theorem dX7_added_4 : decode cX7_added 4 = .ok (.invokevirtual 48, 3) := by decide +kernel
theorem dX7_added_7 : decode cX7_added 7 = .ok (.istore 4, 2) := by decide +kernel
theorem dX7_added_9 : decode cX7_added 9 = .ok (.lconst 0, 1) := by decide +kernel
theorem dX7_added_10 : decode cX7_added 10 = .ok (.lstore 5, 2) := by decide +kernel
theorem dX7_added_12 : decode cX7_added 12 = .ok (.iconst 0, 1) := by decide +kernel
theorem dX7_added_13 : decode cX7_added 13 = .ok (.istore 7, 2) := by decide +kernel
theorem dX7_added_15 : decode cX7_added 15 = .ok (.iload 7, 2) := by decide +kernel
theorem dX7_added_17 : decode cX7_added 17 = .ok (.aload_n 0, 1) := by decide +kernel
theorem dX7_added_18 : decode cX7_added 18 = .ok (.getfield 18, 3) := by decide +kernel
theorem dX7_added_21 : decode cX7_added 21 = .ok (.if_icmp .ge 36, 3) := by decide +kernel
theorem dX7_added_24 : decode cX7_added 24 = .ok (.iload 4, 2) := by decide +kernel
theorem dX7_added_26 : decode cX7_added 26 = .ok (.iload 7, 2) := by decide +kernel
theorem dX7_added_28 : decode cX7_added 28 = .ok (.invokestatic 32, 3) := by decide +kernel
theorem dX7_added_31 : decode cX7_added 31 = .ok (.ifCond .eq 20, 3) := by decide +kernel
theorem dX7_added_34 : decode cX7_added 34 = .ok (.lload 5, 2) := by decide +kernel
theorem dX7_added_36 : decode cX7_added 36 = .ok (.aload_n 0, 1) := by decide +kernel
theorem dX7_added_37 : decode cX7_added 37 = .ok (.getfield 11, 3) := by decide +kernel
theorem dX7_added_40 : decode cX7_added 40 = .ok (.iload 7, 2) := by decide +kernel
theorem dX7_added_42 : decode cX7_added 42 = .ok (.aaload, 1) := by decide +kernel
theorem dX7_added_43 : decode cX7_added 43 = .ok (.getfield 44, 3) := by decide +kernel
theorem dX7_added_46 : decode cX7_added 46 = .ok (.iload_n 2, 1) := by decide +kernel
theorem dX7_added_47 : decode cX7_added 47 = .ok (.laload, 1) := by decide +kernel
theorem dX7_added_48 : decode cX7_added 48 = .ok (.ladd, 1) := by decide +kernel
theorem dX7_added_49 : decode cX7_added 49 = .ok (.lstore 5, 2) := by decide +kernel
theorem dX7_added_51 : decode cX7_added 51 = .ok (.iinc 7 1, 3) := by decide +kernel
theorem dX7_added_54 : decode cX7_added 54 = .ok (.goto (-39), 3) := by decide +kernel
theorem dX7_added_57 : decode cX7_added 57 = .ok (.lload 5, 2) := by decide +kernel
theorem dX7_added_59 : decode cX7_added 59 = .ok (.lreturn, 1) := by decide +kernel
theorem dX7_settleAll_0 : decode cX7_settleAll 0 = .ok (.aload_n 0, 1) := by decide +kernel
theorem dX7_settleAll_1 : decode cX7_settleAll 1 = .ok (.invokevirtual 52, 3) := by decide +kernel
theorem dX7_settleAll_4 : decode cX7_settleAll 4 = .ok (.istore 4, 2) := by decide +kernel
theorem dX7_settleAll_6 : decode cX7_settleAll 6 = .ok (.aload_n 0, 1) := by decide +kernel
theorem dX7_settleAll_7 : decode cX7_settleAll 7 = .ok (.iload_n 1, 1) := by decide +kernel
theorem dX7_settleAll_8 : decode cX7_settleAll 8 = .ok (.iload_n 2, 1) := by decide +kernel
theorem dX7_settleAll_9 : decode cX7_settleAll 9 = .ok (.iload 4, 2) := by decide +kernel
theorem dX7_settleAll_11 : decode cX7_settleAll 11 = .ok (.invokevirtual 48, 3) := by decide +kernel
theorem dX7_settleAll_14 : decode cX7_settleAll 14 = .ok (.aload_n 0, 1) := by decide +kernel
theorem dX7_settleAll_15 : decode cX7_settleAll 15 = .ok (.iload_n 1, 1) := by decide +kernel
theorem dX7_settleAll_16 : decode cX7_settleAll 16 = .ok (.iload_n 3, 1) := by decide +kernel
theorem dX7_settleAll_17 : decode cX7_settleAll 17 = .ok (.iload 4, 2) := by decide +kernel
theorem dX7_settleAll_19 : decode cX7_settleAll 19 = .ok (.invokevirtual 48, 3) := by decide +kernel
theorem dX7_settleAll_22 : decode cX7_settleAll 22 = .ok (.iand, 1) := by decide +kernel
theorem dX7_settleAll_23 : decode cX7_settleAll 23 = .ok (.istore 5, 2) := by decide +kernel
theorem dX7_settleAll_25 : decode cX7_settleAll 25 = .ok (.iconst 0, 1) := by decide +kernel
theorem dX7_settleAll_26 : decode cX7_settleAll 26 = .ok (.istore 6, 2) := by decide +kernel
theorem dX7_settleAll_28 : decode cX7_settleAll 28 = .ok (.iconst 0, 1) := by decide +kernel
theorem dX7_settleAll_29 : decode cX7_settleAll 29 = .ok (.istore 7, 2) := by decide +kernel
theorem dX7_settleAll_31 : decode cX7_settleAll 31 = .ok (.iload 7, 2) := by decide +kernel
theorem dX7_settleAll_33 : decode cX7_settleAll 33 = .ok (.aload_n 0, 1) := by decide +kernel
theorem dX7_settleAll_34 : decode cX7_settleAll 34 = .ok (.getfield 18, 3) := by decide +kernel
theorem dX7_settleAll_37 : decode cX7_settleAll 37 = .ok (.if_icmp .ge 50, 3) := by decide +kernel
theorem dX7_settleAll_40 : decode cX7_settleAll 40 = .ok (.iload 5, 2) := by decide +kernel
theorem dX7_settleAll_42 : decode cX7_settleAll 42 = .ok (.iload 7, 2) := by decide +kernel
theorem dX7_settleAll_44 : decode cX7_settleAll 44 = .ok (.invokestatic 32, 3) := by decide +kernel
theorem dX7_settleAll_47 : decode cX7_settleAll 47 = .ok (.ifCond .eq 34, 3) := by decide +kernel
theorem dX7_settleAll_50 : decode cX7_settleAll 50 = .ok (.iload 6, 2) := by decide +kernel
theorem dX7_settleAll_52 : decode cX7_settleAll 52 = .ok (.aload_n 0, 1) := by decide +kernel
theorem dX7_settleAll_53 : decode cX7_settleAll 53 = .ok (.iload_n 1, 1) := by decide +kernel
theorem dX7_settleAll_54 : decode cX7_settleAll 54 = .ok (.iload_n 3, 1) := by decide +kernel
theorem dX7_settleAll_55 : decode cX7_settleAll 55 = .ok (.aload_n 0, 1) := by decide +kernel
theorem dX7_settleAll_56 : decode cX7_settleAll 56 = .ok (.iload_n 1, 1) := by decide +kernel
theorem dX7_settleAll_57 : decode cX7_settleAll 57 = .ok (.iload_n 2, 1) := by decide +kernel
theorem dX7_settleAll_58 : decode cX7_settleAll 58 = .ok (.aload_n 0, 1) := by decide +kernel
theorem dX7_settleAll_59 : decode cX7_settleAll 59 = .ok (.getfield 11, 3) := by decide +kernel
theorem dX7_settleAll_62 : decode cX7_settleAll 62 = .ok (.iload 7, 2) := by decide +kernel
theorem dX7_settleAll_64 : decode cX7_settleAll 64 = .ok (.aaload, 1) := by decide +kernel
theorem dX7_settleAll_65 : decode cX7_settleAll 65 = .ok (.getfield 44, 3) := by decide +kernel
theorem dX7_settleAll_68 : decode cX7_settleAll 68 = .ok (.iload_n 2, 1) := by decide +kernel
theorem dX7_settleAll_69 : decode cX7_settleAll 69 = .ok (.laload, 1) := by decide +kernel
theorem dX7_settleAll_70 : decode cX7_settleAll 70 = .ok (.iload 5, 2) := by decide +kernel
theorem dX7_settleAll_72 : decode cX7_settleAll 72 = .ok (.invokevirtual 55, 3) := by decide +kernel
theorem dX7_settleAll_75 : decode cX7_settleAll 75 = .ok (.invokevirtual 59, 3) := by decide +kernel
theorem dX7_settleAll_78 : decode cX7_settleAll 78 = .ok (.iadd, 1) := by decide +kernel
theorem dX7_settleAll_79 : decode cX7_settleAll 79 = .ok (.istore 6, 2) := by decide +kernel
theorem dX7_settleAll_81 : decode cX7_settleAll 81 = .ok (.iinc 7 1, 3) := by decide +kernel
theorem dX7_settleAll_84 : decode cX7_settleAll 84 = .ok (.goto (-53), 3) := by decide +kernel
theorem dX7_settleAll_87 : decode cX7_settleAll 87 = .ok (.iload 6, 2) := by decide +kernel
theorem dX7_settleAll_89 : decode cX7_settleAll 89 = .ok (.ireturn, 1) := by decide +kernel
theorem dX7_settleGroup_0 : decode cX7_settleGroup 0 = .ok (.aload_n 0, 1) := by decide +kernel
theorem dX7_settleGroup_1 : decode cX7_settleGroup 1 = .ok (.iload_n 1, 1) := by decide +kernel
theorem dX7_settleGroup_2 : decode cX7_settleGroup 2 = .ok (.iload_n 2, 1) := by decide +kernel
theorem dX7_settleGroup_3 : decode cX7_settleGroup 3 = .ok (.iload_n 3, 1) := by decide +kernel
theorem dX7_settleGroup_4 : decode cX7_settleGroup 4 = .ok (.invokevirtual 62, 3) := by decide +kernel
theorem dX7_settleGroup_7 : decode cX7_settleGroup 7 = .ok (.lstore 4, 2) := by decide +kernel
theorem dX7_settleGroup_9 : decode cX7_settleGroup 9 = .ok (.iconst 0, 1) := by decide +kernel
theorem dX7_settleGroup_10 : decode cX7_settleGroup 10 = .ok (.istore 6, 2) := by decide +kernel
theorem dX7_settleGroup_12 : decode cX7_settleGroup 12 = .ok (.iconst 0, 1) := by decide +kernel
theorem dX7_settleGroup_13 : decode cX7_settleGroup 13 = .ok (.istore 7, 2) := by decide +kernel
theorem dX7_settleGroup_15 : decode cX7_settleGroup 15 = .ok (.iload 7, 2) := by decide +kernel
theorem dX7_settleGroup_17 : decode cX7_settleGroup 17 = .ok (.aload_n 0, 1) := by decide +kernel
theorem dX7_settleGroup_18 : decode cX7_settleGroup 18 = .ok (.getfield 18, 3) := by decide +kernel
theorem dX7_settleGroup_21 : decode cX7_settleGroup 21 = .ok (.if_icmp .ge 53, 3) := by decide +kernel
theorem dX7_settleGroup_24 : decode cX7_settleGroup 24 = .ok (.iload_n 3, 1) := by decide +kernel
theorem dX7_settleGroup_25 : decode cX7_settleGroup 25 = .ok (.iload 7, 2) := by decide +kernel
theorem dX7_settleGroup_27 : decode cX7_settleGroup 27 = .ok (.invokestatic 32, 3) := by decide +kernel
theorem dX7_settleGroup_30 : decode cX7_settleGroup 30 = .ok (.ifCond .eq 38, 3) := by decide +kernel
theorem dX7_settleGroup_33 : decode cX7_settleGroup 33 = .ok (.aload_n 0, 1) := by decide +kernel
theorem dX7_settleGroup_34 : decode cX7_settleGroup 34 = .ok (.getfield 11, 3) := by decide +kernel
theorem dX7_settleGroup_37 : decode cX7_settleGroup 37 = .ok (.iload 7, 2) := by decide +kernel
theorem dX7_settleGroup_39 : decode cX7_settleGroup 39 = .ok (.aaload, 1) := by decide +kernel
theorem dX7_settleGroup_40 : decode cX7_settleGroup 40 = .ok (.getfield 44, 3) := by decide +kernel
theorem dX7_settleGroup_43 : decode cX7_settleGroup 43 = .ok (.iload_n 2, 1) := by decide +kernel
theorem dX7_settleGroup_44 : decode cX7_settleGroup 44 = .ok (.laload, 1) := by decide +kernel
theorem dX7_settleGroup_45 : decode cX7_settleGroup 45 = .ok (.lload 4, 2) := by decide +kernel
theorem dX7_settleGroup_47 : decode cX7_settleGroup 47 = .ok (.lcmp, 1) := by decide +kernel
theorem dX7_settleGroup_48 : decode cX7_settleGroup 48 = .ok (.ifCond .eq 20, 3) := by decide +kernel
theorem dX7_settleGroup_51 : decode cX7_settleGroup 51 = .ok (.aload_n 0, 1) := by decide +kernel
theorem dX7_settleGroup_52 : decode cX7_settleGroup 52 = .ok (.getfield 11, 3) := by decide +kernel
theorem dX7_settleGroup_55 : decode cX7_settleGroup 55 = .ok (.iload 7, 2) := by decide +kernel
theorem dX7_settleGroup_57 : decode cX7_settleGroup 57 = .ok (.aaload, 1) := by decide +kernel
theorem dX7_settleGroup_58 : decode cX7_settleGroup 58 = .ok (.getfield 44, 3) := by decide +kernel
theorem dX7_settleGroup_61 : decode cX7_settleGroup 61 = .ok (.iload_n 2, 1) := by decide +kernel
theorem dX7_settleGroup_62 : decode cX7_settleGroup 62 = .ok (.lload 4, 2) := by decide +kernel
theorem dX7_settleGroup_64 : decode cX7_settleGroup 64 = .ok (.lastore, 1) := by decide +kernel
theorem dX7_settleGroup_65 : decode cX7_settleGroup 65 = .ok (.iinc 6 1, 3) := by decide +kernel
theorem dX7_settleGroup_68 : decode cX7_settleGroup 68 = .ok (.iinc 7 1, 3) := by decide +kernel
theorem dX7_settleGroup_71 : decode cX7_settleGroup 71 = .ok (.goto (-56), 3) := by decide +kernel
theorem dX7_settleGroup_74 : decode cX7_settleGroup 74 = .ok (.iload 6, 2) := by decide +kernel
theorem dX7_settleGroup_76 : decode cX7_settleGroup 76 = .ok (.ireturn, 1) := by decide +kernel
theorem dX7_mostTrusted_0 : decode cX7_mostTrusted 0 = .ok (.lconst 0, 1) := by decide +kernel
theorem dX7_mostTrusted_1 : decode cX7_mostTrusted 1 = .ok (.lstore 4, 2) := by decide +kernel
theorem dX7_mostTrusted_3 : decode cX7_mostTrusted 3 = .ok (.iconst 0, 1) := by decide +kernel
theorem dX7_mostTrusted_4 : decode cX7_mostTrusted 4 = .ok (.istore 6, 2) := by decide +kernel
theorem dX7_mostTrusted_6 : decode cX7_mostTrusted 6 = .ok (.iconst 0, 1) := by decide +kernel
theorem dX7_mostTrusted_7 : decode cX7_mostTrusted 7 = .ok (.istore 7, 2) := by decide +kernel
theorem dX7_mostTrusted_9 : decode cX7_mostTrusted 9 = .ok (.iload 7, 2) := by decide +kernel
theorem dX7_mostTrusted_11 : decode cX7_mostTrusted 11 = .ok (.aload_n 0, 1) := by decide +kernel
theorem dX7_mostTrusted_12 : decode cX7_mostTrusted 12 = .ok (.getfield 18, 3) := by decide +kernel
theorem dX7_mostTrusted_15 : decode cX7_mostTrusted 15 = .ok (.if_icmp .ge 77, 3) := by decide +kernel
theorem dX7_mostTrusted_18 : decode cX7_mostTrusted 18 = .ok (.iload_n 3, 1) := by decide +kernel
theorem dX7_mostTrusted_19 : decode cX7_mostTrusted 19 = .ok (.iload 7, 2) := by decide +kernel
theorem dX7_mostTrusted_21 : decode cX7_mostTrusted 21 = .ok (.invokestatic 32, 3) := by decide +kernel
theorem dX7_mostTrusted_24 : decode cX7_mostTrusted 24 = .ok (.ifCond .eq 62, 3) := by decide +kernel
theorem dX7_mostTrusted_27 : decode cX7_mostTrusted 27 = .ok (.aload_n 0, 1) := by decide +kernel
theorem dX7_mostTrusted_28 : decode cX7_mostTrusted 28 = .ok (.getfield 11, 3) := by decide +kernel
theorem dX7_mostTrusted_31 : decode cX7_mostTrusted 31 = .ok (.iload 7, 2) := by decide +kernel
theorem dX7_mostTrusted_33 : decode cX7_mostTrusted 33 = .ok (.aaload, 1) := by decide +kernel
theorem dX7_mostTrusted_34 : decode cX7_mostTrusted 34 = .ok (.getfield 44, 3) := by decide +kernel
theorem dX7_mostTrusted_37 : decode cX7_mostTrusted 37 = .ok (.iload_n 2, 1) := by decide +kernel
theorem dX7_mostTrusted_38 : decode cX7_mostTrusted 38 = .ok (.laload, 1) := by decide +kernel
theorem dX7_mostTrusted_39 : decode cX7_mostTrusted 39 = .ok (.lstore 8, 2) := by decide +kernel
theorem dX7_mostTrusted_41 : decode cX7_mostTrusted 41 = .ok (.aload_n 0, 1) := by decide +kernel
theorem dX7_mostTrusted_42 : decode cX7_mostTrusted 42 = .ok (.aload_n 0, 1) := by decide +kernel
theorem dX7_mostTrusted_43 : decode cX7_mostTrusted 43 = .ok (.iload_n 1, 1) := by decide +kernel
theorem dX7_mostTrusted_44 : decode cX7_mostTrusted 44 = .ok (.iload_n 2, 1) := by decide +kernel
theorem dX7_mostTrusted_45 : decode cX7_mostTrusted 45 = .ok (.lload 8, 2) := by decide +kernel
theorem dX7_mostTrusted_47 : decode cX7_mostTrusted 47 = .ok (.iload_n 3, 1) := by decide +kernel
theorem dX7_mostTrusted_48 : decode cX7_mostTrusted 48 = .ok (.invokevirtual 55, 3) := by decide +kernel
theorem dX7_mostTrusted_51 : decode cX7_mostTrusted 51 = .ok (.invokevirtual 66, 3) := by decide +kernel
theorem dX7_mostTrusted_54 : decode cX7_mostTrusted 54 = .ok (.istore 10, 2) := by decide +kernel
theorem dX7_mostTrusted_56 : decode cX7_mostTrusted 56 = .ok (.iload 10, 2) := by decide +kernel
theorem dX7_mostTrusted_58 : decode cX7_mostTrusted 58 = .ok (.iload 6, 2) := by decide +kernel
theorem dX7_mostTrusted_60 : decode cX7_mostTrusted 60 = .ok (.if_icmp .gt 18, 3) := by decide +kernel
theorem dX7_mostTrusted_63 : decode cX7_mostTrusted 63 = .ok (.iload 10, 2) := by decide +kernel
theorem dX7_mostTrusted_65 : decode cX7_mostTrusted 65 = .ok (.iload 6, 2) := by decide +kernel
theorem dX7_mostTrusted_67 : decode cX7_mostTrusted 67 = .ok (.if_icmp .ne 19, 3) := by decide +kernel
theorem dX7_mostTrusted_70 : decode cX7_mostTrusted 70 = .ok (.lload 8, 2) := by decide +kernel
theorem dX7_mostTrusted_72 : decode cX7_mostTrusted 72 = .ok (.lload 4, 2) := by decide +kernel
theorem dX7_mostTrusted_74 : decode cX7_mostTrusted 74 = .ok (.lcmp, 1) := by decide +kernel
theorem dX7_mostTrusted_75 : decode cX7_mostTrusted 75 = .ok (.ifCond .ge 11, 3) := by decide +kernel
theorem dX7_mostTrusted_78 : decode cX7_mostTrusted 78 = .ok (.lload 8, 2) := by decide +kernel
theorem dX7_mostTrusted_80 : decode cX7_mostTrusted 80 = .ok (.lstore 4, 2) := by decide +kernel
theorem dX7_mostTrusted_82 : decode cX7_mostTrusted 82 = .ok (.iload 10, 2) := by decide +kernel
theorem dX7_mostTrusted_84 : decode cX7_mostTrusted 84 = .ok (.istore 6, 2) := by decide +kernel
theorem dX7_mostTrusted_86 : decode cX7_mostTrusted 86 = .ok (.iinc 7 1, 3) := by decide +kernel
theorem dX7_mostTrusted_89 : decode cX7_mostTrusted 89 = .ok (.goto (-80), 3) := by decide +kernel
theorem dX7_mostTrusted_92 : decode cX7_mostTrusted 92 = .ok (.lload 4, 2) := by decide +kernel
theorem dX7_mostTrusted_94 : decode cX7_mostTrusted 94 = .ok (.lreturn, 1) := by decide +kernel
theorem dX8_init_0 : decode cX8_init 0 = .ok (.aload_n 0, 1) := by decide +kernel
theorem dX8_init_1 : decode cX8_init 1 = .ok (.invokespecial 3, 3) := by decide +kernel
theorem dX8_init_4 : decode cX8_init 4 = .ok (.aload_n 0, 1) := by decide +kernel
theorem dX8_init_5 : decode cX8_init 5 = .ok (.bipush 6, 2) := by decide +kernel
theorem dX8_init_7 : decode cX8_init 7 = .ok (.newarray .int, 2) := by decide +kernel
theorem dX8_init_9 : decode cX8_init 9 = .ok (.putfield 9, 3) := by decide +kernel
theorem dX8_init_12 : decode cX8_init 12 = .ok (.return_, 1) := by decide +kernel
theorem dX8_make_0 : decode cX8_make 0 = .ok (.aload_n 0, 1) := by decide +kernel
theorem dX8_make_1 : decode cX8_make 1 = .ok (.iload_n 1, 1) := by decide +kernel
theorem dX8_make_2 : decode cX8_make 2 = .ok (.putfield 15, 3) := by decide +kernel
theorem dX8_make_5 : decode cX8_make 5 = .ok (.iload_n 2, 1) := by decide +kernel
theorem dX8_make_6 : decode cX8_make 6 = .ok (.istore_n 3, 1) := by decide +kernel
theorem dX8_make_7 : decode cX8_make 7 = .ok (.iconst 0, 1) := by decide +kernel
theorem dX8_make_8 : decode cX8_make 8 = .ok (.istore 4, 2) := by decide +kernel
theorem dX8_make_10 : decode cX8_make 10 = .ok (.iload 4, 2) := by decide +kernel
theorem dX8_make_12 : decode cX8_make 12 = .ok (.iload_n 1, 1) := by decide +kernel
theorem dX8_make_13 : decode cX8_make 13 = .ok (.if_icmp .ge 25, 3) := by decide +kernel
theorem dX8_make_16 : decode cX8_make 16 = .ok (.aload_n 0, 1) := by decide +kernel
theorem dX8_make_17 : decode cX8_make 17 = .ok (.getfield 9, 3) := by decide +kernel
theorem dX8_make_20 : decode cX8_make 20 = .ok (.iload 4, 2) := by decide +kernel
theorem dX8_make_22 : decode cX8_make 22 = .ok (.iload_n 3, 1) := by decide +kernel
theorem dX8_make_23 : decode cX8_make 23 = .ok (.bipush 10, 2) := by decide +kernel
theorem dX8_make_25 : decode cX8_make 25 = .ok (.irem, 1) := by decide +kernel
theorem dX8_make_26 : decode cX8_make 26 = .ok (.iastore, 1) := by decide +kernel
theorem dX8_make_27 : decode cX8_make 27 = .ok (.iload_n 3, 1) := by decide +kernel
theorem dX8_make_28 : decode cX8_make 28 = .ok (.bipush 10, 2) := by decide +kernel
theorem dX8_make_30 : decode cX8_make 30 = .ok (.idiv, 1) := by decide +kernel
theorem dX8_make_31 : decode cX8_make 31 = .ok (.istore_n 3, 1) := by decide +kernel
theorem dX8_make_32 : decode cX8_make 32 = .ok (.iinc 4 1, 3) := by decide +kernel
theorem dX8_make_35 : decode cX8_make 35 = .ok (.goto (-25), 3) := by decide +kernel
theorem dX8_make_38 : decode cX8_make 38 = .ok (.return_, 1) := by decide +kernel
theorem dX9_init_0 : decode cX9_init 0 = .ok (.aload_n 0, 1) := by decide +kernel
theorem dX9_init_1 : decode cX9_init 1 = .ok (.invokespecial 3, 3) := by decide +kernel
theorem dX9_init_4 : decode cX9_init 4 = .ok (.aload_n 0, 1) := by decide +kernel
theorem dX9_init_5 : decode cX9_init 5 = .ok (.iconst 4, 1) := by decide +kernel
theorem dX9_init_6 : decode cX9_init 6 = .ok (.anewarray 9, 3) := by decide +kernel
theorem dX9_init_9 : decode cX9_init 9 = .ok (.putfield 11, 3) := by decide +kernel
theorem dX9_init_12 : decode cX9_init 12 = .ok (.aload_n 0, 1) := by decide +kernel
theorem dX9_init_13 : decode cX9_init 13 = .ok (.new 15, 3) := by decide +kernel
theorem dX9_init_16 : decode cX9_init 16 = .ok (.dup, 1) := by decide +kernel
theorem dX9_init_17 : decode cX9_init 17 = .ok (.invokespecial 17, 3) := by decide +kernel
theorem dX9_init_20 : decode cX9_init 20 = .ok (.putfield 18, 3) := by decide +kernel
theorem dX9_init_23 : decode cX9_init 23 = .ok (.aload_n 0, 1) := by decide +kernel
theorem dX9_init_24 : decode cX9_init 24 = .ok (.new 22, 3) := by decide +kernel
theorem dX9_init_27 : decode cX9_init 27 = .ok (.dup, 1) := by decide +kernel
theorem dX9_init_28 : decode cX9_init 28 = .ok (.aload_n 0, 1) := by decide +kernel
theorem dX9_init_29 : decode cX9_init 29 = .ok (.getfield 18, 3) := by decide +kernel
theorem dX9_init_32 : decode cX9_init 32 = .ok (.invokespecial 24, 3) := by decide +kernel
theorem dX9_init_35 : decode cX9_init 35 = .ok (.putfield 27, 3) := by decide +kernel
theorem dX9_init_38 : decode cX9_init 38 = .ok (.aload_n 0, 1) := by decide +kernel
theorem dX9_init_39 : decode cX9_init 39 = .ok (.new 31, 3) := by decide +kernel
theorem dX9_init_42 : decode cX9_init 42 = .ok (.dup, 1) := by decide +kernel
theorem dX9_init_43 : decode cX9_init 43 = .ok (.aload_n 0, 1) := by decide +kernel
theorem dX9_init_44 : decode cX9_init 44 = .ok (.getfield 18, 3) := by decide +kernel
theorem dX9_init_47 : decode cX9_init 47 = .ok (.aload_n 0, 1) := by decide +kernel
theorem dX9_init_48 : decode cX9_init 48 = .ok (.getfield 27, 3) := by decide +kernel
theorem dX9_init_51 : decode cX9_init 51 = .ok (.invokespecial 33, 3) := by decide +kernel
theorem dX9_init_54 : decode cX9_init 54 = .ok (.putfield 36, 3) := by decide +kernel
theorem dX9_init_57 : decode cX9_init 57 = .ok (.aload_n 0, 1) := by decide +kernel
theorem dX9_init_58 : decode cX9_init 58 = .ok (.new 40, 3) := by decide +kernel
theorem dX9_init_61 : decode cX9_init 61 = .ok (.dup, 1) := by decide +kernel
theorem dX9_init_62 : decode cX9_init 62 = .ok (.aload_n 0, 1) := by decide +kernel
theorem dX9_init_63 : decode cX9_init 63 = .ok (.getfield 18, 3) := by decide +kernel
theorem dX9_init_66 : decode cX9_init 66 = .ok (.invokespecial 42, 3) := by decide +kernel
theorem dX9_init_69 : decode cX9_init 69 = .ok (.putfield 43, 3) := by decide +kernel
theorem dX9_init_72 : decode cX9_init 72 = .ok (.iconst 0, 1) := by decide +kernel
theorem dX9_init_73 : decode cX9_init 73 = .ok (.istore_n 1, 1) := by decide +kernel
theorem dX9_init_74 : decode cX9_init 74 = .ok (.iload_n 1, 1) := by decide +kernel
theorem dX9_init_75 : decode cX9_init 75 = .ok (.iconst 4, 1) := by decide +kernel
theorem dX9_init_76 : decode cX9_init 76 = .ok (.if_icmp .ge 22, 3) := by decide +kernel
theorem dX9_init_79 : decode cX9_init 79 = .ok (.aload_n 0, 1) := by decide +kernel
theorem dX9_init_80 : decode cX9_init 80 = .ok (.getfield 11, 3) := by decide +kernel
theorem dX9_init_83 : decode cX9_init 83 = .ok (.iload_n 1, 1) := by decide +kernel
theorem dX9_init_84 : decode cX9_init 84 = .ok (.new 9, 3) := by decide +kernel
theorem dX9_init_87 : decode cX9_init 87 = .ok (.dup, 1) := by decide +kernel
theorem dX9_init_88 : decode cX9_init 88 = .ok (.invokespecial 47, 3) := by decide +kernel
theorem dX9_init_91 : decode cX9_init 91 = .ok (.aastore, 1) := by decide +kernel
theorem dX9_init_92 : decode cX9_init 92 = .ok (.iinc 1 1, 3) := by decide +kernel
theorem dX9_init_95 : decode cX9_init 95 = .ok (.goto (-21), 3) := by decide +kernel
theorem dX9_init_98 : decode cX9_init 98 = .ok (.return_, 1) := by decide +kernel
theorem dX9_table_0 : decode cX9_table 0 = .ok (.iload_n 1, 1) := by decide +kernel
theorem dX9_table_1 : decode cX9_table 1 = .ok (.ifCond .lt 8, 3) := by decide +kernel
theorem dX9_table_4 : decode cX9_table 4 = .ok (.iload_n 1, 1) := by decide +kernel
theorem dX9_table_5 : decode cX9_table 5 = .ok (.iconst 4, 1) := by decide +kernel
theorem dX9_table_6 : decode cX9_table 6 = .ok (.if_icmp .lt 10, 3) := by decide +kernel
theorem dX9_table_9 : decode cX9_table 9 = .ok (.aload_n 0, 1) := by decide +kernel
theorem dX9_table_10 : decode cX9_table 10 = .ok (.bipush (-12), 2) := by decide +kernel
theorem dX9_table_12 : decode cX9_table 12 = .ok (.invokevirtual 48, 3) := by decide +kernel
theorem dX9_table_15 : decode cX9_table 15 = .ok (.ireturn, 1) := by decide +kernel
theorem dX9_table_16 : decode cX9_table 16 = .ok (.iload_n 2, 1) := by decide +kernel
theorem dX9_table_17 : decode cX9_table 17 = .ok (.ifCond .ge 10, 3) := by decide +kernel
theorem dX9_table_20 : decode cX9_table 20 = .ok (.aload_n 0, 1) := by decide +kernel
theorem dX9_table_21 : decode cX9_table 21 = .ok (.bipush (-14), 2) := by decide +kernel
theorem dX9_table_23 : decode cX9_table 23 = .ok (.invokevirtual 48, 3) := by decide +kernel
theorem dX9_table_26 : decode cX9_table 26 = .ok (.ireturn, 1) := by decide +kernel
theorem dX9_table_27 : decode cX9_table 27 = .ok (.iload_n 2, 1) := by decide +kernel
theorem dX9_table_28 : decode cX9_table 28 = .ok (.ifCond .eq 17, 3) := by decide +kernel
theorem dX9_table_31 : decode cX9_table 31 = .ok (.iload_n 2, 1) := by decide +kernel
theorem dX9_table_32 : decode cX9_table 32 = .ok (.bipush 6, 2) := by decide +kernel
theorem dX9_table_34 : decode cX9_table 34 = .ok (.if_icmp .gt 11, 3) := by decide +kernel
theorem dX9_table_37 : decode cX9_table 37 = .ok (.iload_n 2, 1) := by decide +kernel
theorem dX9_table_38 : decode cX9_table 38 = .ok (.iload_n 3, 1) := by decide +kernel
theorem dX9_table_39 : decode cX9_table 39 = .ok (.invokestatic 52, 3) := by decide +kernel
theorem dX9_table_42 : decode cX9_table 42 = .ok (.ifCond .ne 6, 3) := by decide +kernel
theorem dX9_table_45 : decode cX9_table 45 = .ok (.bipush (-2), 2) := by decide +kernel
theorem dX9_table_47 : decode cX9_table 47 = .ok (.ireturn, 1) := by decide +kernel
theorem dX9_table_48 : decode cX9_table 48 = .ok (.aload_n 0, 1) := by decide +kernel
theorem dX9_table_49 : decode cX9_table 49 = .ok (.getfield 11, 3) := by decide +kernel
theorem dX9_table_52 : decode cX9_table 52 = .ok (.iload_n 1, 1) := by decide +kernel
theorem dX9_table_53 : decode cX9_table 53 = .ok (.aaload, 1) := by decide +kernel
theorem dX9_table_54 : decode cX9_table 54 = .ok (.getfield 56, 3) := by decide +kernel
theorem dX9_table_57 : decode cX9_table 57 = .ok (.ifCond .eq 6, 3) := by decide +kernel
theorem dX9_table_60 : decode cX9_table 60 = .ok (.bipush (-3), 2) := by decide +kernel
theorem dX9_table_62 : decode cX9_table 62 = .ok (.ireturn, 1) := by decide +kernel
theorem dX9_table_63 : decode cX9_table 63 = .ok (.aload_n 0, 1) := by decide +kernel
theorem dX9_table_64 : decode cX9_table 64 = .ok (.getfield 11, 3) := by decide +kernel
theorem dX9_table_67 : decode cX9_table 67 = .ok (.iload_n 1, 1) := by decide +kernel
theorem dX9_table_68 : decode cX9_table 68 = .ok (.aaload, 1) := by decide +kernel
theorem dX9_table_69 : decode cX9_table 69 = .ok (.iload_n 2, 1) := by decide +kernel
theorem dX9_table_70 : decode cX9_table 70 = .ok (.iload_n 3, 1) := by decide +kernel
theorem dX9_table_71 : decode cX9_table 71 = .ok (.invokevirtual 60, 3) := by decide +kernel
theorem dX9_table_74 : decode cX9_table 74 = .ok (.iload_n 2, 1) := by decide +kernel
theorem dX9_table_75 : decode cX9_table 75 = .ok (.ireturn, 1) := by decide +kernel
theorem dX9_row_0 : decode cX9_row 0 = .ok (.aload_n 0, 1) := by decide +kernel
theorem dX9_row_1 : decode cX9_row 1 = .ok (.iload_n 1, 1) := by decide +kernel
theorem dX9_row_2 : decode cX9_row 2 = .ok (.invokevirtual 64, 3) := by decide +kernel
theorem dX9_row_5 : decode cX9_row 5 = .ok (.istore_n 3, 1) := by decide +kernel
theorem dX9_row_6 : decode cX9_row 6 = .ok (.iload_n 3, 1) := by decide +kernel
theorem dX9_row_7 : decode cX9_row 7 = .ok (.ifCond .eq 5, 3) := by decide +kernel
theorem dX9_row_10 : decode cX9_row 10 = .ok (.iload_n 3, 1) := by decide +kernel
theorem dX9_row_11 : decode cX9_row 11 = .ok (.ireturn, 1) := by decide +kernel
theorem dX9_row_12 : decode cX9_row 12 = .ok (.iload_n 2, 1) := by decide +kernel
theorem dX9_row_13 : decode cX9_row 13 = .ok (.invokestatic 67, 3) := by decide +kernel
theorem dX9_row_16 : decode cX9_row 16 = .ok (.ifCond .ne 6, 3) := by decide +kernel
theorem dX9_row_19 : decode cX9_row 19 = .ok (.bipush (-2), 2) := by decide +kernel
theorem dX9_row_21 : decode cX9_row 21 = .ok (.ireturn, 1) := by decide +kernel
theorem dX9_row_22 : decode cX9_row 22 = .ok (.aload_n 0, 1) := by decide +kernel
theorem dX9_row_23 : decode cX9_row 23 = .ok (.getfield 18, 3) := by decide +kernel
theorem dX9_row_26 : decode cX9_row 26 = .ok (.getfield 71, 3) := by decide +kernel
theorem dX9_row_29 : decode cX9_row 29 = .ok (.bipush 12, 2) := by decide +kernel
theorem dX9_row_31 : decode cX9_row 31 = .ok (.if_icmp .lt 6, 3) := by decide +kernel
theorem dX9_row_34 : decode cX9_row 34 = .ok (.bipush (-4), 2) := by decide +kernel
theorem dX9_row_36 : decode cX9_row 36 = .ok (.ireturn, 1) := by decide +kernel
theorem dX9_row_37 : decode cX9_row 37 = .ok (.aload_n 0, 1) := by decide +kernel
theorem dX9_row_38 : decode cX9_row 38 = .ok (.getfield 18, 3) := by decide +kernel
theorem dX9_row_41 : decode cX9_row 41 = .ok (.iload_n 1, 1) := by decide +kernel
theorem dX9_row_42 : decode cX9_row 42 = .ok (.iload_n 2, 1) := by decide +kernel
theorem dX9_row_43 : decode cX9_row 43 = .ok (.invokevirtual 74, 3) := by decide +kernel
theorem dX9_row_46 : decode cX9_row 46 = .ok (.ireturn, 1) := by decide +kernel
theorem dX9_put_0 : decode cX9_put 0 = .ok (.aload_n 0, 1) := by decide +kernel
theorem dX9_put_1 : decode cX9_put 1 = .ok (.iload_n 1, 1) := by decide +kernel
theorem dX9_put_2 : decode cX9_put 2 = .ok (.iload_n 2, 1) := by decide +kernel
theorem dX9_put_3 : decode cX9_put 3 = .ok (.invokevirtual 78, 3) := by decide +kernel
theorem dX9_put_6 : decode cX9_put 6 = .ok (.istore 5, 2) := by decide +kernel
theorem dX9_put_8 : decode cX9_put 8 = .ok (.iload 5, 2) := by decide +kernel
theorem dX9_put_10 : decode cX9_put 10 = .ok (.ifCond .eq 6, 3) := by decide +kernel
theorem dX9_put_13 : decode cX9_put 13 = .ok (.iload 5, 2) := by decide +kernel
theorem dX9_put_15 : decode cX9_put 15 = .ok (.ireturn, 1) := by decide +kernel
theorem dX9_put_16 : decode cX9_put 16 = .ok (.aload_n 0, 1) := by decide +kernel
theorem dX9_put_17 : decode cX9_put 17 = .ok (.getfield 18, 3) := by decide +kernel
theorem dX9_put_20 : decode cX9_put 20 = .ok (.getfield 81, 3) := by decide +kernel
theorem dX9_put_23 : decode cX9_put 23 = .ok (.iload_n 1, 1) := by decide +kernel
theorem dX9_put_24 : decode cX9_put 24 = .ok (.aaload, 1) := by decide +kernel
theorem dX9_put_25 : decode cX9_put 25 = .ok (.astore 6, 2) := by decide +kernel
theorem dX9_put_27 : decode cX9_put 27 = .ok (.aload 6, 2) := by decide +kernel
theorem dX9_put_29 : decode cX9_put 29 = .ok (.getfield 85, 3) := by decide +kernel
theorem dX9_put_32 : decode cX9_put 32 = .ok (.iload_n 2, 1) := by decide +kernel
theorem dX9_put_33 : decode cX9_put 33 = .ok (.aload_n 0, 1) := by decide +kernel
theorem dX9_put_34 : decode cX9_put 34 = .ok (.getfield 11, 3) := by decide +kernel
theorem dX9_put_37 : decode cX9_put 37 = .ok (.aload 6, 2) := by decide +kernel
theorem dX9_put_39 : decode cX9_put 39 = .ok (.getfield 91, 3) := by decide +kernel
theorem dX9_put_42 : decode cX9_put 42 = .ok (.aaload, 1) := by decide +kernel
theorem dX9_put_43 : decode cX9_put 43 = .ok (.getfield 94, 3) := by decide +kernel
theorem dX9_put_46 : decode cX9_put 46 = .ok (.iload_n 2, 1) := by decide +kernel
theorem dX9_put_47 : decode cX9_put 47 = .ok (.iaload, 1) := by decide +kernel
theorem dX9_put_48 : decode cX9_put 48 = .ok (.lload_n 3, 1) := by decide +kernel
theorem dX9_put_49 : decode cX9_put 49 = .ok (.invokestatic 98, 3) := by decide +kernel
theorem dX9_put_52 : decode cX9_put 52 = .ok (.lastore, 1) := by decide +kernel
theorem dX9_put_53 : decode cX9_put 53 = .ok (.aload 6, 2) := by decide +kernel
theorem dX9_put_55 : decode cX9_put 55 = .ok (.getfield 102, 3) := by decide +kernel
theorem dX9_put_58 : decode cX9_put 58 = .ok (.iload_n 2, 1) := by decide +kernel
theorem dX9_put_59 : decode cX9_put 59 = .ok (.iconst 1, 1) := by decide +kernel
theorem dX9_put_60 : decode cX9_put 60 = .ok (.bastore, 1) := by decide +kernel
theorem dX9_put_61 : decode cX9_put 61 = .ok (.iconst 1, 1) := by decide +kernel
theorem dX9_put_62 : decode cX9_put 62 = .ok (.ireturn, 1) := by decide +kernel
theorem dX9_miss_0 : decode cX9_miss 0 = .ok (.aload_n 0, 1) := by decide +kernel
theorem dX9_miss_1 : decode cX9_miss 1 = .ok (.iload_n 1, 1) := by decide +kernel
theorem dX9_miss_2 : decode cX9_miss 2 = .ok (.iload_n 2, 1) := by decide +kernel
theorem dX9_miss_3 : decode cX9_miss 3 = .ok (.invokevirtual 78, 3) := by decide +kernel
theorem dX9_miss_6 : decode cX9_miss 6 = .ok (.istore_n 3, 1) := by decide +kernel
theorem dX9_miss_7 : decode cX9_miss 7 = .ok (.iload_n 3, 1) := by decide +kernel
theorem dX9_miss_8 : decode cX9_miss 8 = .ok (.ifCond .eq 5, 3) := by decide +kernel
theorem dX9_miss_11 : decode cX9_miss 11 = .ok (.iload_n 3, 1) := by decide +kernel
theorem dX9_miss_12 : decode cX9_miss 12 = .ok (.ireturn, 1) := by decide +kernel
theorem dX9_miss_13 : decode cX9_miss 13 = .ok (.aload_n 0, 1) := by decide +kernel
theorem dX9_miss_14 : decode cX9_miss 14 = .ok (.getfield 18, 3) := by decide +kernel
theorem dX9_miss_17 : decode cX9_miss 17 = .ok (.getfield 81, 3) := by decide +kernel
theorem dX9_miss_20 : decode cX9_miss 20 = .ok (.iload_n 1, 1) := by decide +kernel
theorem dX9_miss_21 : decode cX9_miss 21 = .ok (.aaload, 1) := by decide +kernel
theorem dX9_miss_22 : decode cX9_miss 22 = .ok (.astore 4, 2) := by decide +kernel
theorem dX9_miss_24 : decode cX9_miss 24 = .ok (.aload 4, 2) := by decide +kernel
theorem dX9_miss_26 : decode cX9_miss 26 = .ok (.getfield 102, 3) := by decide +kernel
theorem dX9_miss_29 : decode cX9_miss 29 = .ok (.iload_n 2, 1) := by decide +kernel
theorem dX9_miss_30 : decode cX9_miss 30 = .ok (.baload, 1) := by decide +kernel
theorem dX9_miss_31 : decode cX9_miss 31 = .ok (.ifCond .ne 7, 3) := by decide +kernel
theorem dX9_miss_34 : decode cX9_miss 34 = .ok (.iconst 1, 1) := by decide +kernel
theorem dX9_miss_35 : decode cX9_miss 35 = .ok (.goto 4, 3) := by decide +kernel
theorem dX9_miss_38 : decode cX9_miss 38 = .ok (.iconst 0, 1) := by decide +kernel
theorem dX9_miss_39 : decode cX9_miss 39 = .ok (.invokestatic 106, 3) := by decide +kernel
theorem dX9_miss_42 : decode cX9_miss 42 = .ok (.istore 5, 2) := by decide +kernel
theorem dX9_miss_44 : decode cX9_miss 44 = .ok (.aload 4, 2) := by decide +kernel
theorem dX9_miss_46 : decode cX9_miss 46 = .ok (.getfield 85, 3) := by decide +kernel
theorem dX9_miss_49 : decode cX9_miss 49 = .ok (.iload_n 2, 1) := by decide +kernel
theorem dX9_miss_50 : decode cX9_miss 50 = .ok (.lconst 0, 1) := by decide +kernel
theorem dX9_miss_51 : decode cX9_miss 51 = .ok (.lastore, 1) := by decide +kernel
theorem dX9_miss_52 : decode cX9_miss 52 = .ok (.aload 4, 2) := by decide +kernel
theorem dX9_miss_54 : decode cX9_miss 54 = .ok (.getfield 102, 3) := by decide +kernel
theorem dX9_miss_57 : decode cX9_miss 57 = .ok (.iload_n 2, 1) := by decide +kernel
theorem dX9_miss_58 : decode cX9_miss 58 = .ok (.iconst 0, 1) := by decide +kernel
theorem dX9_miss_59 : decode cX9_miss 59 = .ok (.bastore, 1) := by decide +kernel
theorem dX9_miss_60 : decode cX9_miss 60 = .ok (.iload 5, 2) := by decide +kernel
theorem dX9_miss_62 : decode cX9_miss 62 = .ok (.ireturn, 1) := by decide +kernel
theorem dX9_has_0 : decode cX9_has 0 = .ok (.aload_n 0, 1) := by decide +kernel
theorem dX9_has_1 : decode cX9_has 1 = .ok (.iload_n 1, 1) := by decide +kernel
theorem dX9_has_2 : decode cX9_has 2 = .ok (.iload_n 2, 1) := by decide +kernel
theorem dX9_has_3 : decode cX9_has 3 = .ok (.invokevirtual 78, 3) := by decide +kernel
theorem dX9_has_6 : decode cX9_has 6 = .ok (.istore_n 3, 1) := by decide +kernel
theorem dX9_has_7 : decode cX9_has 7 = .ok (.iload_n 3, 1) := by decide +kernel
theorem dX9_has_8 : decode cX9_has 8 = .ok (.ifCond .eq 5, 3) := by decide +kernel
theorem dX9_has_11 : decode cX9_has 11 = .ok (.iload_n 3, 1) := by decide +kernel
theorem dX9_has_12 : decode cX9_has 12 = .ok (.ireturn, 1) := by decide +kernel
theorem dX9_has_13 : decode cX9_has 13 = .ok (.aload_n 0, 1) := by decide +kernel
theorem dX9_has_14 : decode cX9_has 14 = .ok (.getfield 18, 3) := by decide +kernel
theorem dX9_has_17 : decode cX9_has 17 = .ok (.getfield 81, 3) := by decide +kernel
theorem dX9_has_20 : decode cX9_has 20 = .ok (.iload_n 1, 1) := by decide +kernel
theorem dX9_has_21 : decode cX9_has 21 = .ok (.aaload, 1) := by decide +kernel
theorem dX9_has_22 : decode cX9_has 22 = .ok (.getfield 102, 3) := by decide +kernel
theorem dX9_has_25 : decode cX9_has 25 = .ok (.iload_n 2, 1) := by decide +kernel
theorem dX9_has_26 : decode cX9_has 26 = .ok (.baload, 1) := by decide +kernel
theorem dX9_has_27 : decode cX9_has 27 = .ok (.invokestatic 106, 3) := by decide +kernel
theorem dX9_has_30 : decode cX9_has 30 = .ok (.ireturn, 1) := by decide +kernel
theorem dX9_cell_0 : decode cX9_cell 0 = .ok (.aload_n 0, 1) := by decide +kernel
theorem dX9_cell_1 : decode cX9_cell 1 = .ok (.iload_n 1, 1) := by decide +kernel
theorem dX9_cell_2 : decode cX9_cell 2 = .ok (.iload_n 2, 1) := by decide +kernel
theorem dX9_cell_3 : decode cX9_cell 3 = .ok (.invokevirtual 78, 3) := by decide +kernel
theorem dX9_cell_6 : decode cX9_cell 6 = .ok (.istore_n 3, 1) := by decide +kernel
theorem dX9_cell_7 : decode cX9_cell 7 = .ok (.iload_n 3, 1) := by decide +kernel
theorem dX9_cell_8 : decode cX9_cell 8 = .ok (.ifCond .eq 6, 3) := by decide +kernel
theorem dX9_cell_11 : decode cX9_cell 11 = .ok (.iload_n 3, 1) := by decide +kernel
theorem dX9_cell_12 : decode cX9_cell 12 = .ok (.i2l, 1) := by decide +kernel
theorem dX9_cell_13 : decode cX9_cell 13 = .ok (.lreturn, 1) := by decide +kernel
theorem dX9_cell_14 : decode cX9_cell 14 = .ok (.aload_n 0, 1) := by decide +kernel
theorem dX9_cell_15 : decode cX9_cell 15 = .ok (.getfield 18, 3) := by decide +kernel
theorem dX9_cell_18 : decode cX9_cell 18 = .ok (.getfield 81, 3) := by decide +kernel
theorem dX9_cell_21 : decode cX9_cell 21 = .ok (.iload_n 1, 1) := by decide +kernel
theorem dX9_cell_22 : decode cX9_cell 22 = .ok (.aaload, 1) := by decide +kernel
theorem dX9_cell_23 : decode cX9_cell 23 = .ok (.getfield 85, 3) := by decide +kernel
theorem dX9_cell_26 : decode cX9_cell 26 = .ok (.iload_n 2, 1) := by decide +kernel
theorem dX9_cell_27 : decode cX9_cell 27 = .ok (.laload, 1) := by decide +kernel
theorem dX9_cell_28 : decode cX9_cell 28 = .ok (.lreturn, 1) := by decide +kernel
theorem dX9_column_0 : decode cX9_column 0 = .ok (.aload_n 0, 1) := by decide +kernel
theorem dX9_column_1 : decode cX9_column 1 = .ok (.iload_n 1, 1) := by decide +kernel
theorem dX9_column_2 : decode cX9_column 2 = .ok (.invokevirtual 64, 3) := by decide +kernel
theorem dX9_column_5 : decode cX9_column 5 = .ok (.istore 4, 2) := by decide +kernel
theorem dX9_column_7 : decode cX9_column 7 = .ok (.iload 4, 2) := by decide +kernel
theorem dX9_column_9 : decode cX9_column 9 = .ok (.ifCond .eq 6, 3) := by decide +kernel
theorem dX9_column_12 : decode cX9_column 12 = .ok (.iload 4, 2) := by decide +kernel
theorem dX9_column_14 : decode cX9_column 14 = .ok (.ireturn, 1) := by decide +kernel
theorem dX9_column_15 : decode cX9_column 15 = .ok (.iload_n 3, 1) := by decide +kernel
theorem dX9_column_16 : decode cX9_column 16 = .ok (.ifCond .lt 8, 3) := by decide +kernel
theorem dX9_column_19 : decode cX9_column 19 = .ok (.iload_n 3, 1) := by decide +kernel
theorem dX9_column_20 : decode cX9_column 20 = .ok (.iconst 5, 1) := by decide +kernel
theorem dX9_column_21 : decode cX9_column 21 = .ok (.if_icmp .le 6, 3) := by decide +kernel
theorem dX9_column_24 : decode cX9_column 24 = .ok (.bipush (-2), 2) := by decide +kernel
theorem dX9_column_26 : decode cX9_column 26 = .ok (.ireturn, 1) := by decide +kernel
theorem dX9_column_27 : decode cX9_column 27 = .ok (.aload_n 0, 1) := by decide +kernel
theorem dX9_column_28 : decode cX9_column 28 = .ok (.iload_n 1, 1) := by decide +kernel
theorem dX9_column_29 : decode cX9_column 29 = .ok (.iload_n 2, 1) := by decide +kernel
theorem dX9_column_30 : decode cX9_column 30 = .ok (.invokevirtual 110, 3) := by decide +kernel
theorem dX9_column_33 : decode cX9_column 33 = .ok (.istore 4, 2) := by decide +kernel
theorem dX9_column_35 : decode cX9_column 35 = .ok (.iload 4, 2) := by decide +kernel
theorem dX9_column_37 : decode cX9_column 37 = .ok (.ifCond .eq 6, 3) := by decide +kernel
theorem dX9_column_40 : decode cX9_column 40 = .ok (.iload 4, 2) := by decide +kernel
theorem dX9_column_42 : decode cX9_column 42 = .ok (.ireturn, 1) := by decide +kernel
theorem dX9_column_43 : decode cX9_column 43 = .ok (.aload_n 0, 1) := by decide +kernel
theorem dX9_column_44 : decode cX9_column 44 = .ok (.getfield 11, 3) := by decide +kernel
theorem dX9_column_47 : decode cX9_column 47 = .ok (.iload_n 1, 1) := by decide +kernel
theorem dX9_column_48 : decode cX9_column 48 = .ok (.aaload, 1) := by decide +kernel
theorem dX9_column_49 : decode cX9_column 49 = .ok (.getfield 94, 3) := by decide +kernel
theorem dX9_column_52 : decode cX9_column 52 = .ok (.iload_n 2, 1) := by decide +kernel
theorem dX9_column_53 : decode cX9_column 53 = .ok (.iaload, 1) := by decide +kernel
theorem dX9_column_54 : decode cX9_column 54 = .ok (.iload_n 3, 1) := by decide +kernel
theorem dX9_column_55 : decode cX9_column 55 = .ok (.if_icmp .eq 10, 3) := by decide +kernel
theorem dX9_column_58 : decode cX9_column 58 = .ok (.aload_n 0, 1) := by decide +kernel
theorem dX9_column_59 : decode cX9_column 59 = .ok (.bipush (-13), 2) := by decide +kernel
theorem dX9_column_61 : decode cX9_column 61 = .ok (.invokevirtual 48, 3) := by decide +kernel
theorem dX9_column_64 : decode cX9_column 64 = .ok (.ireturn, 1) := by decide +kernel
theorem dX9_column_65 : decode cX9_column 65 = .ok (.aload_n 0, 1) := by decide +kernel
theorem dX9_column_66 : decode cX9_column 66 = .ok (.getfield 18, 3) := by decide +kernel
theorem dX9_column_69 : decode cX9_column 69 = .ok (.iload_n 1, 1) := by decide +kernel
theorem dX9_column_70 : decode cX9_column 70 = .ok (.invokevirtual 113, 3) := by decide +kernel
theorem dX9_column_73 : decode cX9_column 73 = .ok (.ireturn, 1) := by decide +kernel
theorem dX9_trust_0 : decode cX9_trust 0 = .ok (.aload_n 0, 1) := by decide +kernel
theorem dX9_trust_1 : decode cX9_trust 1 = .ok (.iload_n 1, 1) := by decide +kernel
theorem dX9_trust_2 : decode cX9_trust 2 = .ok (.invokevirtual 116, 3) := by decide +kernel
theorem dX9_trust_5 : decode cX9_trust 5 = .ok (.ifCond .ne 5, 3) := by decide +kernel
theorem dX9_trust_8 : decode cX9_trust 8 = .ok (.iconst (-1), 1) := by decide +kernel
theorem dX9_trust_9 : decode cX9_trust 9 = .ok (.ireturn, 1) := by decide +kernel
theorem dX9_trust_10 : decode cX9_trust 10 = .ok (.iload_n 2, 1) := by decide +kernel
theorem dX9_trust_11 : decode cX9_trust 11 = .ok (.invokestatic 67, 3) := by decide +kernel
theorem dX9_trust_14 : decode cX9_trust 14 = .ok (.ifCond .ne 6, 3) := by decide +kernel
theorem dX9_trust_17 : decode cX9_trust 17 = .ok (.bipush (-2), 2) := by decide +kernel
theorem dX9_trust_19 : decode cX9_trust 19 = .ok (.ireturn, 1) := by decide +kernel
theorem dX9_trust_20 : decode cX9_trust 20 = .ok (.aload_n 0, 1) := by decide +kernel
theorem dX9_trust_21 : decode cX9_trust 21 = .ok (.getfield 18, 3) := by decide +kernel
theorem dX9_trust_24 : decode cX9_trust 24 = .ok (.getfield 81, 3) := by decide +kernel
theorem dX9_trust_27 : decode cX9_trust 27 = .ok (.iload_n 1, 1) := by decide +kernel
theorem dX9_trust_28 : decode cX9_trust 28 = .ok (.aaload, 1) := by decide +kernel
theorem dX9_trust_29 : decode cX9_trust 29 = .ok (.getfield 119, 3) := by decide +kernel
theorem dX9_trust_32 : decode cX9_trust 32 = .ok (.istore_n 3, 1) := by decide +kernel
theorem dX9_trust_33 : decode cX9_trust 33 = .ok (.aload_n 0, 1) := by decide +kernel
theorem dX9_trust_34 : decode cX9_trust 34 = .ok (.getfield 18, 3) := by decide +kernel
theorem dX9_trust_37 : decode cX9_trust 37 = .ok (.getfield 81, 3) := by decide +kernel
theorem dX9_trust_40 : decode cX9_trust 40 = .ok (.iload_n 1, 1) := by decide +kernel
theorem dX9_trust_41 : decode cX9_trust 41 = .ok (.aaload, 1) := by decide +kernel
theorem dX9_trust_42 : decode cX9_trust 42 = .ok (.iload_n 2, 1) := by decide +kernel
theorem dX9_trust_43 : decode cX9_trust 43 = .ok (.putfield 119, 3) := by decide +kernel
theorem dX9_trust_46 : decode cX9_trust 46 = .ok (.iload_n 3, 1) := by decide +kernel
theorem dX9_trust_47 : decode cX9_trust 47 = .ok (.ireturn, 1) := by decide +kernel
theorem dX9_keep_0 : decode cX9_keep 0 = .ok (.aload_n 0, 1) := by decide +kernel
theorem dX9_keep_1 : decode cX9_keep 1 = .ok (.iload_n 1, 1) := by decide +kernel
theorem dX9_keep_2 : decode cX9_keep 2 = .ok (.invokevirtual 116, 3) := by decide +kernel
theorem dX9_keep_5 : decode cX9_keep 5 = .ok (.ifCond .ne 5, 3) := by decide +kernel
theorem dX9_keep_8 : decode cX9_keep 8 = .ok (.iconst (-1), 1) := by decide +kernel
theorem dX9_keep_9 : decode cX9_keep 9 = .ok (.ireturn, 1) := by decide +kernel
theorem dX9_keep_10 : decode cX9_keep 10 = .ok (.aload_n 0, 1) := by decide +kernel
theorem dX9_keep_11 : decode cX9_keep 11 = .ok (.getfield 18, 3) := by decide +kernel
theorem dX9_keep_14 : decode cX9_keep 14 = .ok (.getfield 81, 3) := by decide +kernel
theorem dX9_keep_17 : decode cX9_keep 17 = .ok (.iload_n 1, 1) := by decide +kernel
theorem dX9_keep_18 : decode cX9_keep 18 = .ok (.aaload, 1) := by decide +kernel
theorem dX9_keep_19 : decode cX9_keep 19 = .ok (.getfield 122, 3) := by decide +kernel
theorem dX9_keep_22 : decode cX9_keep 22 = .ok (.invokestatic 106, 3) := by decide +kernel
theorem dX9_keep_25 : decode cX9_keep 25 = .ok (.istore_n 3, 1) := by decide +kernel
theorem dX9_keep_26 : decode cX9_keep 26 = .ok (.aload_n 0, 1) := by decide +kernel
theorem dX9_keep_27 : decode cX9_keep 27 = .ok (.getfield 18, 3) := by decide +kernel
theorem dX9_keep_30 : decode cX9_keep 30 = .ok (.getfield 81, 3) := by decide +kernel
theorem dX9_keep_33 : decode cX9_keep 33 = .ok (.iload_n 1, 1) := by decide +kernel
theorem dX9_keep_34 : decode cX9_keep 34 = .ok (.aaload, 1) := by decide +kernel
theorem dX9_keep_35 : decode cX9_keep 35 = .ok (.iload_n 2, 1) := by decide +kernel
theorem dX9_keep_36 : decode cX9_keep 36 = .ok (.putfield 122, 3) := by decide +kernel
theorem dX9_keep_39 : decode cX9_keep 39 = .ok (.iload_n 3, 1) := by decide +kernel
theorem dX9_keep_40 : decode cX9_keep 40 = .ok (.ireturn, 1) := by decide +kernel
theorem dX9_about_0 : decode cX9_about 0 = .ok (.aload_n 0, 1) := by decide +kernel
theorem dX9_about_1 : decode cX9_about 1 = .ok (.iload_n 1, 1) := by decide +kernel
theorem dX9_about_2 : decode cX9_about 2 = .ok (.invokevirtual 116, 3) := by decide +kernel
theorem dX9_about_5 : decode cX9_about 5 = .ok (.ifCond .ne 5, 3) := by decide +kernel
theorem dX9_about_8 : decode cX9_about 8 = .ok (.iconst (-1), 1) := by decide +kernel
theorem dX9_about_9 : decode cX9_about 9 = .ok (.ireturn, 1) := by decide +kernel
theorem dX9_about_10 : decode cX9_about 10 = .ok (.aload_n 0, 1) := by decide +kernel
theorem dX9_about_11 : decode cX9_about 11 = .ok (.getfield 18, 3) := by decide +kernel
theorem dX9_about_14 : decode cX9_about 14 = .ok (.getfield 81, 3) := by decide +kernel
theorem dX9_about_17 : decode cX9_about 17 = .ok (.iload_n 1, 1) := by decide +kernel
theorem dX9_about_18 : decode cX9_about 18 = .ok (.aaload, 1) := by decide +kernel
theorem dX9_about_19 : decode cX9_about 19 = .ok (.astore_n 3, 1) := by decide +kernel
theorem dX9_about_20 : decode cX9_about 20 = .ok (.iload_n 2, 1) := by decide +kernel
theorem dX9_about_21 : decode cX9_about 21 = .ok (.tableswitch 45 0 2 #[27, 32, 37], 27) := by decide +kernel
theorem dX9_about_48 : decode cX9_about 48 = .ok (.aload_n 3, 1) := by decide +kernel
theorem dX9_about_49 : decode cX9_about 49 = .ok (.getfield 91, 3) := by decide +kernel
theorem dX9_about_52 : decode cX9_about 52 = .ok (.ireturn, 1) := by decide +kernel
theorem dX9_about_53 : decode cX9_about 53 = .ok (.aload_n 3, 1) := by decide +kernel
theorem dX9_about_54 : decode cX9_about 54 = .ok (.getfield 119, 3) := by decide +kernel
theorem dX9_about_57 : decode cX9_about 57 = .ok (.ireturn, 1) := by decide +kernel
theorem dX9_about_58 : decode cX9_about 58 = .ok (.aload_n 3, 1) := by decide +kernel
theorem dX9_about_59 : decode cX9_about 59 = .ok (.getfield 122, 3) := by decide +kernel
theorem dX9_about_62 : decode cX9_about 62 = .ok (.invokestatic 106, 3) := by decide +kernel
theorem dX9_about_65 : decode cX9_about 65 = .ok (.ireturn, 1) := by decide +kernel
theorem dX9_about_66 : decode cX9_about 66 = .ok (.bipush (-2), 2) := by decide +kernel
theorem dX9_about_68 : decode cX9_about 68 = .ok (.ireturn, 1) := by decide +kernel
theorem dX9_law_0 : decode cX9_law 0 = .ok (.iload_n 1, 1) := by decide +kernel
theorem dX9_law_1 : decode cX9_law 1 = .ok (.ifCond .lt 20, 3) := by decide +kernel
theorem dX9_law_4 : decode cX9_law 4 = .ok (.iload_n 1, 1) := by decide +kernel
theorem dX9_law_5 : decode cX9_law 5 = .ok (.iconst 4, 1) := by decide +kernel
theorem dX9_law_6 : decode cX9_law 6 = .ok (.if_icmp .gt 15, 3) := by decide +kernel
theorem dX9_law_9 : decode cX9_law 9 = .ok (.iload_n 1, 1) := by decide +kernel
theorem dX9_law_10 : decode cX9_law 10 = .ok (.iconst 4, 1) := by decide +kernel
theorem dX9_law_11 : decode cX9_law 11 = .ok (.if_icmp .ne 13, 3) := by decide +kernel
theorem dX9_law_14 : decode cX9_law 14 = .ok (.lload 5, 2) := by decide +kernel
theorem dX9_law_16 : decode cX9_law 16 = .ok (.lconst 0, 1) := by decide +kernel
theorem dX9_law_17 : decode cX9_law 17 = .ok (.lcmp, 1) := by decide +kernel
theorem dX9_law_18 : decode cX9_law 18 = .ok (.ifCond .ge 6, 3) := by decide +kernel
theorem dX9_law_21 : decode cX9_law 21 = .ok (.bipush (-2), 2) := by decide +kernel
theorem dX9_law_23 : decode cX9_law 23 = .ok (.ireturn, 1) := by decide +kernel
theorem dX9_law_24 : decode cX9_law 24 = .ok (.aload_n 0, 1) := by decide +kernel
theorem dX9_law_25 : decode cX9_law 25 = .ok (.getfield 27, 3) := by decide +kernel
theorem dX9_law_28 : decode cX9_law 28 = .ok (.getfield 126, 3) := by decide +kernel
theorem dX9_law_31 : decode cX9_law 31 = .ok (.bipush 10, 2) := by decide +kernel
theorem dX9_law_33 : decode cX9_law 33 = .ok (.if_icmp .lt 6, 3) := by decide +kernel
theorem dX9_law_36 : decode cX9_law 36 = .ok (.bipush (-4), 2) := by decide +kernel
theorem dX9_law_38 : decode cX9_law 38 = .ok (.ireturn, 1) := by decide +kernel
theorem dX9_law_39 : decode cX9_law 39 = .ok (.aload_n 0, 1) := by decide +kernel
theorem dX9_law_40 : decode cX9_law 40 = .ok (.iload_n 2, 1) := by decide +kernel
theorem dX9_law_41 : decode cX9_law 41 = .ok (.iload_n 3, 1) := by decide +kernel
theorem dX9_law_42 : decode cX9_law 42 = .ok (.invokevirtual 127, 3) := by decide +kernel
theorem dX9_law_45 : decode cX9_law 45 = .ok (.istore 9, 2) := by decide +kernel
theorem dX9_law_47 : decode cX9_law 47 = .ok (.iload 9, 2) := by decide +kernel
theorem dX9_law_49 : decode cX9_law 49 = .ok (.ifCond .ne 19, 3) := by decide +kernel
theorem dX9_law_52 : decode cX9_law 52 = .ok (.iload_n 1, 1) := by decide +kernel
theorem dX9_law_53 : decode cX9_law 53 = .ok (.invokestatic 130, 3) := by decide +kernel
theorem dX9_law_56 : decode cX9_law 56 = .ok (.ifCond .eq 12, 3) := by decide +kernel
theorem dX9_law_59 : decode cX9_law 59 = .ok (.aload_n 0, 1) := by decide +kernel
theorem dX9_law_60 : decode cX9_law 60 = .ok (.iload_n 2, 1) := by decide +kernel
theorem dX9_law_61 : decode cX9_law 61 = .ok (.iload 4, 2) := by decide +kernel
theorem dX9_law_63 : decode cX9_law 63 = .ok (.invokevirtual 110, 3) := by decide +kernel
theorem dX9_law_66 : decode cX9_law 66 = .ok (.istore 9, 2) := by decide +kernel
theorem dX9_law_68 : decode cX9_law 68 = .ok (.iload 9, 2) := by decide +kernel
theorem dX9_law_70 : decode cX9_law 70 = .ok (.ifCond .eq 6, 3) := by decide +kernel
theorem dX9_law_73 : decode cX9_law 73 = .ok (.iload 9, 2) := by decide +kernel
theorem dX9_law_75 : decode cX9_law 75 = .ok (.ireturn, 1) := by decide +kernel
theorem dX9_law_76 : decode cX9_law 76 = .ok (.aload_n 0, 1) := by decide +kernel
theorem dX9_law_77 : decode cX9_law 77 = .ok (.getfield 27, 3) := by decide +kernel
theorem dX9_law_80 : decode cX9_law 80 = .ok (.iload_n 1, 1) := by decide +kernel
theorem dX9_law_81 : decode cX9_law 81 = .ok (.iload_n 2, 1) := by decide +kernel
theorem dX9_law_82 : decode cX9_law 82 = .ok (.invokevirtual 133, 3) := by decide +kernel
theorem dX9_law_85 : decode cX9_law 85 = .ok (.astore 10, 2) := by decide +kernel
theorem dX9_law_87 : decode cX9_law 87 = .ok (.aload 10, 2) := by decide +kernel
theorem dX9_law_89 : decode cX9_law 89 = .ok (.iload_n 3, 1) := by decide +kernel
theorem dX9_law_90 : decode cX9_law 90 = .ok (.putfield 136, 3) := by decide +kernel
theorem dX9_law_93 : decode cX9_law 93 = .ok (.aload 10, 2) := by decide +kernel
theorem dX9_law_95 : decode cX9_law 95 = .ok (.iload_n 1, 1) := by decide +kernel
theorem dX9_law_96 : decode cX9_law 96 = .ok (.invokestatic 130, 3) := by decide +kernel
theorem dX9_law_99 : decode cX9_law 99 = .ok (.ifCond .eq 8, 3) := by decide +kernel
theorem dX9_law_102 : decode cX9_law 102 = .ok (.iload 4, 2) := by decide +kernel
theorem dX9_law_104 : decode cX9_law 104 = .ok (.goto 4, 3) := by decide +kernel
theorem dX9_law_107 : decode cX9_law 107 = .ok (.iload_n 3, 1) := by decide +kernel
theorem dX9_law_108 : decode cX9_law 108 = .ok (.putfield 141, 3) := by decide +kernel
theorem dX9_law_111 : decode cX9_law 111 = .ok (.aload 10, 2) := by decide +kernel
theorem dX9_law_113 : decode cX9_law 113 = .ok (.lload 5, 2) := by decide +kernel
theorem dX9_law_115 : decode cX9_law 115 = .ok (.putfield 144, 3) := by decide +kernel
theorem dX9_law_118 : decode cX9_law 118 = .ok (.aload 10, 2) := by decide +kernel
theorem dX9_law_120 : decode cX9_law 120 = .ok (.lload 7, 2) := by decide +kernel
theorem dX9_law_122 : decode cX9_law 122 = .ok (.putfield 148, 3) := by decide +kernel
theorem dX9_law_125 : decode cX9_law 125 = .ok (.aload_n 0, 1) := by decide +kernel
theorem dX9_law_126 : decode cX9_law 126 = .ok (.getfield 27, 3) := by decide +kernel
theorem dX9_law_129 : decode cX9_law 129 = .ok (.getfield 126, 3) := by decide +kernel
theorem dX9_law_132 : decode cX9_law 132 = .ok (.iconst 1, 1) := by decide +kernel
theorem dX9_law_133 : decode cX9_law 133 = .ok (.isub, 1) := by decide +kernel
theorem dX9_law_134 : decode cX9_law 134 = .ok (.ireturn, 1) := by decide +kernel
theorem dX9_among_0 : decode cX9_among 0 = .ok (.aload_n 0, 1) := by decide +kernel
theorem dX9_among_1 : decode cX9_among 1 = .ok (.getfield 27, 3) := by decide +kernel
theorem dX9_among_4 : decode cX9_among 4 = .ok (.getfield 126, 3) := by decide +kernel
theorem dX9_among_7 : decode cX9_among 7 = .ok (.bipush 10, 2) := by decide +kernel
theorem dX9_among_9 : decode cX9_among 9 = .ok (.if_icmp .lt 6, 3) := by decide +kernel
theorem dX9_among_12 : decode cX9_among 12 = .ok (.bipush (-4), 2) := by decide +kernel
theorem dX9_among_14 : decode cX9_among 14 = .ok (.ireturn, 1) := by decide +kernel
theorem dX9_among_15 : decode cX9_among 15 = .ok (.aload_n 0, 1) := by decide +kernel
theorem dX9_among_16 : decode cX9_among 16 = .ok (.iload_n 1, 1) := by decide +kernel
theorem dX9_among_17 : decode cX9_among 17 = .ok (.iload_n 2, 1) := by decide +kernel
theorem dX9_among_18 : decode cX9_among 18 = .ok (.invokevirtual 127, 3) := by decide +kernel
theorem dX9_among_21 : decode cX9_among 21 = .ok (.istore 5, 2) := by decide +kernel
theorem dX9_among_23 : decode cX9_among 23 = .ok (.iload 5, 2) := by decide +kernel
theorem dX9_among_25 : decode cX9_among 25 = .ok (.ifCond .ne 12, 3) := by decide +kernel
theorem dX9_among_28 : decode cX9_among 28 = .ok (.aload_n 0, 1) := by decide +kernel
theorem dX9_among_29 : decode cX9_among 29 = .ok (.iload_n 3, 1) := by decide +kernel
theorem dX9_among_30 : decode cX9_among 30 = .ok (.iload 4, 2) := by decide +kernel
theorem dX9_among_32 : decode cX9_among 32 = .ok (.invokevirtual 127, 3) := by decide +kernel
theorem dX9_among_35 : decode cX9_among 35 = .ok (.istore 5, 2) := by decide +kernel
theorem dX9_among_37 : decode cX9_among 37 = .ok (.iload 5, 2) := by decide +kernel
theorem dX9_among_39 : decode cX9_among 39 = .ok (.ifCond .eq 6, 3) := by decide +kernel
theorem dX9_among_42 : decode cX9_among 42 = .ok (.iload 5, 2) := by decide +kernel
theorem dX9_among_44 : decode cX9_among 44 = .ok (.ireturn, 1) := by decide +kernel
theorem dX9_among_45 : decode cX9_among 45 = .ok (.aload_n 0, 1) := by decide +kernel
theorem dX9_among_46 : decode cX9_among 46 = .ok (.getfield 27, 3) := by decide +kernel
theorem dX9_among_49 : decode cX9_among 49 = .ok (.iconst 5, 1) := by decide +kernel
theorem dX9_among_50 : decode cX9_among 50 = .ok (.iload_n 1, 1) := by decide +kernel
theorem dX9_among_51 : decode cX9_among 51 = .ok (.invokevirtual 133, 3) := by decide +kernel
theorem dX9_among_54 : decode cX9_among 54 = .ok (.astore 6, 2) := by decide +kernel
theorem dX9_among_56 : decode cX9_among 56 = .ok (.aload 6, 2) := by decide +kernel
theorem dX9_among_58 : decode cX9_among 58 = .ok (.iload_n 2, 1) := by decide +kernel
theorem dX9_among_59 : decode cX9_among 59 = .ok (.putfield 136, 3) := by decide +kernel
theorem dX9_among_62 : decode cX9_among 62 = .ok (.aload 6, 2) := by decide +kernel
theorem dX9_among_64 : decode cX9_among 64 = .ok (.iload_n 3, 1) := by decide +kernel
theorem dX9_among_65 : decode cX9_among 65 = .ok (.putfield 151, 3) := by decide +kernel
theorem dX9_among_68 : decode cX9_among 68 = .ok (.aload 6, 2) := by decide +kernel
theorem dX9_among_70 : decode cX9_among 70 = .ok (.iload 4, 2) := by decide +kernel
theorem dX9_among_72 : decode cX9_among 72 = .ok (.putfield 141, 3) := by decide +kernel
theorem dX9_among_75 : decode cX9_among 75 = .ok (.aload_n 0, 1) := by decide +kernel
theorem dX9_among_76 : decode cX9_among 76 = .ok (.getfield 27, 3) := by decide +kernel
theorem dX9_among_79 : decode cX9_among 79 = .ok (.getfield 126, 3) := by decide +kernel
theorem dX9_among_82 : decode cX9_among 82 = .ok (.iconst 1, 1) := by decide +kernel
theorem dX9_among_83 : decode cX9_among 83 = .ok (.isub, 1) := by decide +kernel
theorem dX9_among_84 : decode cX9_among 84 = .ok (.ireturn, 1) := by decide +kernel
theorem dX9_force_0 : decode cX9_force 0 = .ok (.aload_n 0, 1) := by decide +kernel
theorem dX9_force_1 : decode cX9_force 1 = .ok (.iload_n 1, 1) := by decide +kernel
theorem dX9_force_2 : decode cX9_force 2 = .ok (.invokevirtual 154, 3) := by decide +kernel
theorem dX9_force_5 : decode cX9_force 5 = .ok (.ifCond .ne 5, 3) := by decide +kernel
theorem dX9_force_8 : decode cX9_force 8 = .ok (.iconst (-1), 1) := by decide +kernel
theorem dX9_force_9 : decode cX9_force 9 = .ok (.ireturn, 1) := by decide +kernel
theorem dX9_force_10 : decode cX9_force 10 = .ok (.aload_n 0, 1) := by decide +kernel
theorem dX9_force_11 : decode cX9_force 11 = .ok (.getfield 27, 3) := by decide +kernel
theorem dX9_force_14 : decode cX9_force 14 = .ok (.getfield 157, 3) := by decide +kernel
theorem dX9_force_17 : decode cX9_force 17 = .ok (.iload_n 1, 1) := by decide +kernel
theorem dX9_force_18 : decode cX9_force 18 = .ok (.aaload, 1) := by decide +kernel
theorem dX9_force_19 : decode cX9_force 19 = .ok (.getfield 160, 3) := by decide +kernel
theorem dX9_force_22 : decode cX9_force 22 = .ok (.invokestatic 106, 3) := by decide +kernel
theorem dX9_force_25 : decode cX9_force 25 = .ok (.istore_n 3, 1) := by decide +kernel
theorem dX9_force_26 : decode cX9_force 26 = .ok (.aload_n 0, 1) := by decide +kernel
theorem dX9_force_27 : decode cX9_force 27 = .ok (.getfield 27, 3) := by decide +kernel
theorem dX9_force_30 : decode cX9_force 30 = .ok (.getfield 157, 3) := by decide +kernel
theorem dX9_force_33 : decode cX9_force 33 = .ok (.iload_n 1, 1) := by decide +kernel
theorem dX9_force_34 : decode cX9_force 34 = .ok (.aaload, 1) := by decide +kernel
theorem dX9_force_35 : decode cX9_force 35 = .ok (.iload_n 2, 1) := by decide +kernel
theorem dX9_force_36 : decode cX9_force 36 = .ok (.putfield 160, 3) := by decide +kernel
theorem dX9_force_39 : decode cX9_force 39 = .ok (.iload_n 3, 1) := by decide +kernel
theorem dX9_force_40 : decode cX9_force 40 = .ok (.ireturn, 1) := by decide +kernel
theorem dX9_most_0 : decode cX9_most 0 = .ok (.aload_n 0, 1) := by decide +kernel
theorem dX9_most_1 : decode cX9_most 1 = .ok (.iload_n 1, 1) := by decide +kernel
theorem dX9_most_2 : decode cX9_most 2 = .ok (.invokevirtual 154, 3) := by decide +kernel
theorem dX9_most_5 : decode cX9_most 5 = .ok (.ifCond .ne 7, 3) := by decide +kernel
theorem dX9_most_8 : decode cX9_most 8 = .ok (.ldc2_w 163, 3) := by decide +kernel
theorem dX9_most_11 : decode cX9_most 11 = .ok (.lreturn, 1) := by decide +kernel
theorem dX9_most_12 : decode cX9_most 12 = .ok (.aload_n 0, 1) := by decide +kernel
theorem dX9_most_13 : decode cX9_most 13 = .ok (.getfield 27, 3) := by decide +kernel
theorem dX9_most_16 : decode cX9_most 16 = .ok (.getfield 157, 3) := by decide +kernel
theorem dX9_most_19 : decode cX9_most 19 = .ok (.iload_n 1, 1) := by decide +kernel
theorem dX9_most_20 : decode cX9_most 20 = .ok (.aaload, 1) := by decide +kernel
theorem dX9_most_21 : decode cX9_most 21 = .ok (.getfield 165, 3) := by decide +kernel
theorem dX9_most_24 : decode cX9_most 24 = .ok (.iconst 4, 1) := by decide +kernel
theorem dX9_most_25 : decode cX9_most 25 = .ok (.if_icmp .eq 11, 3) := by decide +kernel
theorem dX9_most_28 : decode cX9_most 28 = .ok (.aload_n 0, 1) := by decide +kernel
theorem dX9_most_29 : decode cX9_most 29 = .ok (.bipush (-13), 2) := by decide +kernel
theorem dX9_most_31 : decode cX9_most 31 = .ok (.invokevirtual 48, 3) := by decide +kernel
theorem dX9_most_34 : decode cX9_most 34 = .ok (.i2l, 1) := by decide +kernel
theorem dX9_most_35 : decode cX9_most 35 = .ok (.lreturn, 1) := by decide +kernel
theorem dX9_most_36 : decode cX9_most 36 = .ok (.aload_n 0, 1) := by decide +kernel
theorem dX9_most_37 : decode cX9_most 37 = .ok (.getfield 27, 3) := by decide +kernel
theorem dX9_most_40 : decode cX9_most 40 = .ok (.getfield 157, 3) := by decide +kernel
theorem dX9_most_43 : decode cX9_most 43 = .ok (.iload_n 1, 1) := by decide +kernel
theorem dX9_most_44 : decode cX9_most 44 = .ok (.aaload, 1) := by decide +kernel
theorem dX9_most_45 : decode cX9_most 45 = .ok (.getfield 144, 3) := by decide +kernel
theorem dX9_most_48 : decode cX9_most 48 = .ok (.lreturn, 1) := by decide +kernel
theorem dX9_quarrels_0 : decode cX9_quarrels 0 = .ok (.aload_n 0, 1) := by decide +kernel
theorem dX9_quarrels_1 : decode cX9_quarrels 1 = .ok (.iload_n 1, 1) := by decide +kernel
theorem dX9_quarrels_2 : decode cX9_quarrels 2 = .ok (.invokevirtual 154, 3) := by decide +kernel
theorem dX9_quarrels_5 : decode cX9_quarrels 5 = .ok (.ifCond .ne 5, 3) := by decide +kernel
theorem dX9_quarrels_8 : decode cX9_quarrels 8 = .ok (.iconst (-1), 1) := by decide +kernel
theorem dX9_quarrels_9 : decode cX9_quarrels 9 = .ok (.ireturn, 1) := by decide +kernel
theorem dX9_quarrels_10 : decode cX9_quarrels 10 = .ok (.aload_n 0, 1) := by decide +kernel
theorem dX9_quarrels_11 : decode cX9_quarrels 11 = .ok (.getfield 27, 3) := by decide +kernel
theorem dX9_quarrels_14 : decode cX9_quarrels 14 = .ok (.aload_n 0, 1) := by decide +kernel
theorem dX9_quarrels_15 : decode cX9_quarrels 15 = .ok (.getfield 27, 3) := by decide +kernel
theorem dX9_quarrels_18 : decode cX9_quarrels 18 = .ok (.getfield 157, 3) := by decide +kernel
theorem dX9_quarrels_21 : decode cX9_quarrels 21 = .ok (.iload_n 1, 1) := by decide +kernel
theorem dX9_quarrels_22 : decode cX9_quarrels 22 = .ok (.aaload, 1) := by decide +kernel
theorem dX9_quarrels_23 : decode cX9_quarrels 23 = .ok (.aload_n 0, 1) := by decide +kernel
theorem dX9_quarrels_24 : decode cX9_quarrels 24 = .ok (.getfield 18, 3) := by decide +kernel
theorem dX9_quarrels_27 : decode cX9_quarrels 27 = .ok (.invokevirtual 168, 3) := by decide +kernel
theorem dX9_quarrels_30 : decode cX9_quarrels 30 = .ok (.invokevirtual 171, 3) := by decide +kernel
theorem dX9_quarrels_33 : decode cX9_quarrels 33 = .ok (.aload_n 0, 1) := by decide +kernel
theorem dX9_quarrels_34 : decode cX9_quarrels 34 = .ok (.getfield 27, 3) := by decide +kernel
theorem dX9_quarrels_37 : decode cX9_quarrels 37 = .ok (.getfield 175, 3) := by decide +kernel
theorem dX9_quarrels_40 : decode cX9_quarrels 40 = .ok (.ireturn, 1) := by decide +kernel
theorem dX9_quarrel_0 : decode cX9_quarrel 0 = .ok (.aload_n 0, 1) := by decide +kernel
theorem dX9_quarrel_1 : decode cX9_quarrel 1 = .ok (.iload_n 1, 1) := by decide +kernel
theorem dX9_quarrel_2 : decode cX9_quarrel 2 = .ok (.invokevirtual 154, 3) := by decide +kernel
theorem dX9_quarrel_5 : decode cX9_quarrel 5 = .ok (.ifCond .ne 5, 3) := by decide +kernel
theorem dX9_quarrel_8 : decode cX9_quarrel 8 = .ok (.iconst (-1), 1) := by decide +kernel
theorem dX9_quarrel_9 : decode cX9_quarrel 9 = .ok (.ireturn, 1) := by decide +kernel
theorem dX9_quarrel_10 : decode cX9_quarrel 10 = .ok (.aload_n 0, 1) := by decide +kernel
theorem dX9_quarrel_11 : decode cX9_quarrel 11 = .ok (.getfield 27, 3) := by decide +kernel
theorem dX9_quarrel_14 : decode cX9_quarrel 14 = .ok (.aload_n 0, 1) := by decide +kernel
theorem dX9_quarrel_15 : decode cX9_quarrel 15 = .ok (.getfield 27, 3) := by decide +kernel
theorem dX9_quarrel_18 : decode cX9_quarrel 18 = .ok (.getfield 157, 3) := by decide +kernel
theorem dX9_quarrel_21 : decode cX9_quarrel 21 = .ok (.iload_n 1, 1) := by decide +kernel
theorem dX9_quarrel_22 : decode cX9_quarrel 22 = .ok (.aaload, 1) := by decide +kernel
theorem dX9_quarrel_23 : decode cX9_quarrel 23 = .ok (.aload_n 0, 1) := by decide +kernel
theorem dX9_quarrel_24 : decode cX9_quarrel 24 = .ok (.getfield 18, 3) := by decide +kernel
theorem dX9_quarrel_27 : decode cX9_quarrel 27 = .ok (.invokevirtual 168, 3) := by decide +kernel
theorem dX9_quarrel_30 : decode cX9_quarrel 30 = .ok (.invokevirtual 171, 3) := by decide +kernel
theorem dX9_quarrel_33 : decode cX9_quarrel 33 = .ok (.iload_n 2, 1) := by decide +kernel
theorem dX9_quarrel_34 : decode cX9_quarrel 34 = .ok (.ifCond .lt 14, 3) := by decide +kernel
theorem dX9_quarrel_37 : decode cX9_quarrel 37 = .ok (.iload_n 2, 1) := by decide +kernel
theorem dX9_quarrel_38 : decode cX9_quarrel 38 = .ok (.aload_n 0, 1) := by decide +kernel
theorem dX9_quarrel_39 : decode cX9_quarrel 39 = .ok (.getfield 27, 3) := by decide +kernel
theorem dX9_quarrel_42 : decode cX9_quarrel 42 = .ok (.getfield 175, 3) := by decide +kernel
theorem dX9_quarrel_45 : decode cX9_quarrel 45 = .ok (.if_icmp .lt 6, 3) := by decide +kernel
theorem dX9_quarrel_48 : decode cX9_quarrel 48 = .ok (.bipush (-9), 2) := by decide +kernel
theorem dX9_quarrel_50 : decode cX9_quarrel 50 = .ok (.ireturn, 1) := by decide +kernel
theorem dX9_quarrel_51 : decode cX9_quarrel 51 = .ok (.aload_n 0, 1) := by decide +kernel
theorem dX9_quarrel_52 : decode cX9_quarrel 52 = .ok (.getfield 27, 3) := by decide +kernel
theorem dX9_quarrel_55 : decode cX9_quarrel 55 = .ok (.getfield 178, 3) := by decide +kernel
theorem dX9_quarrel_58 : decode cX9_quarrel 58 = .ok (.iload_n 2, 1) := by decide +kernel
theorem dX9_quarrel_59 : decode cX9_quarrel 59 = .ok (.iaload, 1) := by decide +kernel
theorem dX9_quarrel_60 : decode cX9_quarrel 60 = .ok (.ireturn, 1) := by decide +kernel
theorem dX9_clean_0 : decode cX9_clean 0 = .ok (.aload_n 0, 1) := by decide +kernel
theorem dX9_clean_1 : decode cX9_clean 1 = .ok (.getfield 27, 3) := by decide +kernel
theorem dX9_clean_4 : decode cX9_clean 4 = .ok (.aload_n 0, 1) := by decide +kernel
theorem dX9_clean_5 : decode cX9_clean 5 = .ok (.getfield 18, 3) := by decide +kernel
theorem dX9_clean_8 : decode cX9_clean 8 = .ok (.invokevirtual 168, 3) := by decide +kernel
theorem dX9_clean_11 : decode cX9_clean 11 = .ok (.invokevirtual 180, 3) := by decide +kernel
theorem dX9_clean_14 : decode cX9_clean 14 = .ok (.bipush (-9), 2) := by decide +kernel
theorem dX9_clean_16 : decode cX9_clean 16 = .ok (.if_icmp .ne 7, 3) := by decide +kernel
theorem dX9_clean_19 : decode cX9_clean 19 = .ok (.iconst 1, 1) := by decide +kernel
theorem dX9_clean_20 : decode cX9_clean 20 = .ok (.goto 4, 3) := by decide +kernel
theorem dX9_clean_23 : decode cX9_clean 23 = .ok (.iconst 0, 1) := by decide +kernel
theorem dX9_clean_24 : decode cX9_clean 24 = .ok (.invokestatic 106, 3) := by decide +kernel
theorem dX9_clean_27 : decode cX9_clean 27 = .ok (.ireturn, 1) := by decide +kernel
theorem dX9_breaks_0 : decode cX9_breaks 0 = .ok (.iload_n 1, 1) := by decide +kernel
theorem dX9_breaks_1 : decode cX9_breaks 1 = .ok (.aload_n 0, 1) := by decide +kernel
theorem dX9_breaks_2 : decode cX9_breaks 2 = .ok (.getfield 18, 3) := by decide +kernel
theorem dX9_breaks_5 : decode cX9_breaks 5 = .ok (.invokevirtual 168, 3) := by decide +kernel
theorem dX9_breaks_8 : decode cX9_breaks 8 = .ok (.iconst (-1), 1) := by decide +kernel
theorem dX9_breaks_9 : decode cX9_breaks 9 = .ok (.ixor, 1) := by decide +kernel
theorem dX9_breaks_10 : decode cX9_breaks 10 = .ok (.iand, 1) := by decide +kernel
theorem dX9_breaks_11 : decode cX9_breaks 11 = .ok (.ifCond .eq 6, 3) := by decide +kernel
theorem dX9_breaks_14 : decode cX9_breaks 14 = .ok (.bipush (-2), 2) := by decide +kernel
theorem dX9_breaks_16 : decode cX9_breaks 16 = .ok (.ireturn, 1) := by decide +kernel
theorem dX9_breaks_17 : decode cX9_breaks 17 = .ok (.aload_n 0, 1) := by decide +kernel
theorem dX9_breaks_18 : decode cX9_breaks 18 = .ok (.getfield 27, 3) := by decide +kernel
theorem dX9_breaks_21 : decode cX9_breaks 21 = .ok (.iload_n 1, 1) := by decide +kernel
theorem dX9_breaks_22 : decode cX9_breaks 22 = .ok (.invokevirtual 180, 3) := by decide +kernel
theorem dX9_breaks_25 : decode cX9_breaks 25 = .ok (.ireturn, 1) := by decide +kernel
theorem dX9_mends_0 : decode cX9_mends 0 = .ok (.aload_n 0, 1) := by decide +kernel
theorem dX9_mends_1 : decode cX9_mends 1 = .ok (.getfield 36, 3) := by decide +kernel
theorem dX9_mends_4 : decode cX9_mends 4 = .ok (.invokevirtual 183, 3) := by decide +kernel
theorem dX9_mends_7 : decode cX9_mends 7 = .ok (.aload_n 0, 1) := by decide +kernel
theorem dX9_mends_8 : decode cX9_mends 8 = .ok (.getfield 36, 3) := by decide +kernel
theorem dX9_mends_11 : decode cX9_mends 11 = .ok (.getfield 185, 3) := by decide +kernel
theorem dX9_mends_14 : decode cX9_mends 14 = .ok (.ireturn, 1) := by decide +kernel
theorem dX9_mending_0 : decode cX9_mending 0 = .ok (.aload_n 0, 1) := by decide +kernel
theorem dX9_mending_1 : decode cX9_mending 1 = .ok (.getfield 36, 3) := by decide +kernel
theorem dX9_mending_4 : decode cX9_mending 4 = .ok (.invokevirtual 183, 3) := by decide +kernel
theorem dX9_mending_7 : decode cX9_mending 7 = .ok (.iload_n 1, 1) := by decide +kernel
theorem dX9_mending_8 : decode cX9_mending 8 = .ok (.ifCond .lt 14, 3) := by decide +kernel
theorem dX9_mending_11 : decode cX9_mending 11 = .ok (.iload_n 1, 1) := by decide +kernel
theorem dX9_mending_12 : decode cX9_mending 12 = .ok (.aload_n 0, 1) := by decide +kernel
theorem dX9_mending_13 : decode cX9_mending 13 = .ok (.getfield 36, 3) := by decide +kernel
theorem dX9_mending_16 : decode cX9_mending 16 = .ok (.getfield 185, 3) := by decide +kernel
theorem dX9_mending_19 : decode cX9_mending 19 = .ok (.if_icmp .lt 6, 3) := by decide +kernel
theorem dX9_mending_22 : decode cX9_mending 22 = .ok (.bipush (-9), 2) := by decide +kernel
theorem dX9_mending_24 : decode cX9_mending 24 = .ok (.ireturn, 1) := by decide +kernel
theorem dX9_mending_25 : decode cX9_mending 25 = .ok (.aload_n 0, 1) := by decide +kernel
theorem dX9_mending_26 : decode cX9_mending 26 = .ok (.getfield 36, 3) := by decide +kernel
theorem dX9_mending_29 : decode cX9_mending 29 = .ok (.getfield 186, 3) := by decide +kernel
theorem dX9_mending_32 : decode cX9_mending 32 = .ok (.iload_n 1, 1) := by decide +kernel
theorem dX9_mending_33 : decode cX9_mending 33 = .ok (.iaload, 1) := by decide +kernel
theorem dX9_mending_34 : decode cX9_mending 34 = .ok (.ireturn, 1) := by decide +kernel
theorem dX9_price_0 : decode cX9_price 0 = .ok (.aload_n 0, 1) := by decide +kernel
theorem dX9_price_1 : decode cX9_price 1 = .ok (.getfield 36, 3) := by decide +kernel
theorem dX9_price_4 : decode cX9_price 4 = .ok (.invokevirtual 183, 3) := by decide +kernel
theorem dX9_price_7 : decode cX9_price 7 = .ok (.aload_n 0, 1) := by decide +kernel
theorem dX9_price_8 : decode cX9_price 8 = .ok (.getfield 18, 3) := by decide +kernel
theorem dX9_price_11 : decode cX9_price 11 = .ok (.aload_n 0, 1) := by decide +kernel
theorem dX9_price_12 : decode cX9_price 12 = .ok (.getfield 36, 3) := by decide +kernel
theorem dX9_price_15 : decode cX9_price 15 = .ok (.invokevirtual 189, 3) := by decide +kernel
theorem dX9_price_18 : decode cX9_price 18 = .ok (.invokevirtual 192, 3) := by decide +kernel
theorem dX9_price_21 : decode cX9_price 21 = .ok (.ireturn, 1) := by decide +kernel
theorem dX9_best_0 : decode cX9_best 0 = .ok (.aload_n 0, 1) := by decide +kernel
theorem dX9_best_1 : decode cX9_best 1 = .ok (.getfield 36, 3) := by decide +kernel
theorem dX9_best_4 : decode cX9_best 4 = .ok (.invokevirtual 183, 3) := by decide +kernel
theorem dX9_best_7 : decode cX9_best 7 = .ok (.aload_n 0, 1) := by decide +kernel
theorem dX9_best_8 : decode cX9_best 8 = .ok (.getfield 36, 3) := by decide +kernel
theorem dX9_best_11 : decode cX9_best 11 = .ok (.invokevirtual 189, 3) := by decide +kernel
theorem dX9_best_14 : decode cX9_best 14 = .ok (.ireturn, 1) := by decide +kernel
theorem dX9_blame_0 : decode cX9_blame 0 = .ok (.aload_n 0, 1) := by decide +kernel
theorem dX9_blame_1 : decode cX9_blame 1 = .ok (.iload_n 1, 1) := by decide +kernel
theorem dX9_blame_2 : decode cX9_blame 2 = .ok (.invokevirtual 116, 3) := by decide +kernel
theorem dX9_blame_5 : decode cX9_blame 5 = .ok (.ifCond .ne 5, 3) := by decide +kernel
theorem dX9_blame_8 : decode cX9_blame 8 = .ok (.iconst (-1), 1) := by decide +kernel
theorem dX9_blame_9 : decode cX9_blame 9 = .ok (.ireturn, 1) := by decide +kernel
theorem dX9_blame_10 : decode cX9_blame 10 = .ok (.aload_n 0, 1) := by decide +kernel
theorem dX9_blame_11 : decode cX9_blame 11 = .ok (.getfield 36, 3) := by decide +kernel
theorem dX9_blame_14 : decode cX9_blame 14 = .ok (.invokevirtual 183, 3) := by decide +kernel
theorem dX9_blame_17 : decode cX9_blame 17 = .ok (.iconst 0, 1) := by decide +kernel
theorem dX9_blame_18 : decode cX9_blame 18 = .ok (.istore_n 2, 1) := by decide +kernel
theorem dX9_blame_19 : decode cX9_blame 19 = .ok (.iconst 0, 1) := by decide +kernel
theorem dX9_blame_20 : decode cX9_blame 20 = .ok (.istore_n 3, 1) := by decide +kernel
theorem dX9_blame_21 : decode cX9_blame 21 = .ok (.iload_n 3, 1) := by decide +kernel
theorem dX9_blame_22 : decode cX9_blame 22 = .ok (.aload_n 0, 1) := by decide +kernel
theorem dX9_blame_23 : decode cX9_blame 23 = .ok (.getfield 36, 3) := by decide +kernel
theorem dX9_blame_26 : decode cX9_blame 26 = .ok (.getfield 185, 3) := by decide +kernel
theorem dX9_blame_29 : decode cX9_blame 29 = .ok (.if_icmp .ge 28, 3) := by decide +kernel
theorem dX9_blame_32 : decode cX9_blame 32 = .ok (.iload_n 2, 1) := by decide +kernel
theorem dX9_blame_33 : decode cX9_blame 33 = .ok (.aload_n 0, 1) := by decide +kernel
theorem dX9_blame_34 : decode cX9_blame 34 = .ok (.getfield 36, 3) := by decide +kernel
theorem dX9_blame_37 : decode cX9_blame 37 = .ok (.getfield 186, 3) := by decide +kernel
theorem dX9_blame_40 : decode cX9_blame 40 = .ok (.iload_n 3, 1) := by decide +kernel
theorem dX9_blame_41 : decode cX9_blame 41 = .ok (.iaload, 1) := by decide +kernel
theorem dX9_blame_42 : decode cX9_blame 42 = .ok (.iload_n 1, 1) := by decide +kernel
theorem dX9_blame_43 : decode cX9_blame 43 = .ok (.invokestatic 195, 3) := by decide +kernel
theorem dX9_blame_46 : decode cX9_blame 46 = .ok (.invokestatic 106, 3) := by decide +kernel
theorem dX9_blame_49 : decode cX9_blame 49 = .ok (.iadd, 1) := by decide +kernel
theorem dX9_blame_50 : decode cX9_blame 50 = .ok (.istore_n 2, 1) := by decide +kernel
theorem dX9_blame_51 : decode cX9_blame 51 = .ok (.iinc 3 1, 3) := by decide +kernel
theorem dX9_blame_54 : decode cX9_blame 54 = .ok (.goto (-33), 3) := by decide +kernel
theorem dX9_blame_57 : decode cX9_blame 57 = .ok (.iload_n 2, 1) := by decide +kernel
theorem dX9_blame_58 : decode cX9_blame 58 = .ok (.ireturn, 1) := by decide +kernel
theorem dX9_sum_0 : decode cX9_sum 0 = .ok (.aload_n 0, 1) := by decide +kernel
theorem dX9_sum_1 : decode cX9_sum 1 = .ok (.iload_n 1, 1) := by decide +kernel
theorem dX9_sum_2 : decode cX9_sum 2 = .ok (.iload_n 2, 1) := by decide +kernel
theorem dX9_sum_3 : decode cX9_sum 3 = .ok (.invokevirtual 127, 3) := by decide +kernel
theorem dX9_sum_6 : decode cX9_sum 6 = .ok (.istore 4, 2) := by decide +kernel
theorem dX9_sum_8 : decode cX9_sum 8 = .ok (.iload 4, 2) := by decide +kernel
theorem dX9_sum_10 : decode cX9_sum 10 = .ok (.ifCond .eq 7, 3) := by decide +kernel
theorem dX9_sum_13 : decode cX9_sum 13 = .ok (.iload 4, 2) := by decide +kernel
theorem dX9_sum_15 : decode cX9_sum 15 = .ok (.i2l, 1) := by decide +kernel
theorem dX9_sum_16 : decode cX9_sum 16 = .ok (.lreturn, 1) := by decide +kernel
theorem dX9_sum_17 : decode cX9_sum 17 = .ok (.aload_n 0, 1) := by decide +kernel
theorem dX9_sum_18 : decode cX9_sum 18 = .ok (.getfield 36, 3) := by decide +kernel
theorem dX9_sum_21 : decode cX9_sum 21 = .ok (.invokevirtual 183, 3) := by decide +kernel
theorem dX9_sum_24 : decode cX9_sum 24 = .ok (.lconst 0, 1) := by decide +kernel
theorem dX9_sum_25 : decode cX9_sum 25 = .ok (.lstore 5, 2) := by decide +kernel
theorem dX9_sum_27 : decode cX9_sum 27 = .ok (.iconst 0, 1) := by decide +kernel
theorem dX9_sum_28 : decode cX9_sum 28 = .ok (.istore 7, 2) := by decide +kernel
theorem dX9_sum_30 : decode cX9_sum 30 = .ok (.iload 7, 2) := by decide +kernel
theorem dX9_sum_32 : decode cX9_sum 32 = .ok (.aload_n 0, 1) := by decide +kernel
theorem dX9_sum_33 : decode cX9_sum 33 = .ok (.getfield 36, 3) := by decide +kernel
theorem dX9_sum_36 : decode cX9_sum 36 = .ok (.getfield 185, 3) := by decide +kernel
theorem dX9_sum_39 : decode cX9_sum 39 = .ok (.if_icmp .ge 61, 3) := by decide +kernel
theorem dX9_sum_42 : decode cX9_sum 42 = .ok (.aload_n 0, 1) := by decide +kernel
theorem dX9_sum_43 : decode cX9_sum 43 = .ok (.getfield 18, 3) := by decide +kernel
theorem dX9_sum_46 : decode cX9_sum 46 = .ok (.iload_n 1, 1) := by decide +kernel
theorem dX9_sum_47 : decode cX9_sum 47 = .ok (.iload_n 2, 1) := by decide +kernel
theorem dX9_sum_48 : decode cX9_sum 48 = .ok (.aload_n 0, 1) := by decide +kernel
theorem dX9_sum_49 : decode cX9_sum 49 = .ok (.getfield 36, 3) := by decide +kernel
theorem dX9_sum_52 : decode cX9_sum 52 = .ok (.iload 7, 2) := by decide +kernel
theorem dX9_sum_54 : decode cX9_sum 54 = .ok (.invokevirtual 198, 3) := by decide +kernel
theorem dX9_sum_57 : decode cX9_sum 57 = .ok (.invokevirtual 201, 3) := by decide +kernel
theorem dX9_sum_60 : decode cX9_sum 60 = .ok (.lstore 8, 2) := by decide +kernel
theorem dX9_sum_62 : decode cX9_sum 62 = .ok (.iload 7, 2) := by decide +kernel
theorem dX9_sum_64 : decode cX9_sum 64 = .ok (.ifCond .eq 26, 3) := by decide +kernel
theorem dX9_sum_67 : decode cX9_sum 67 = .ok (.iload_n 3, 1) := by decide +kernel
theorem dX9_sum_68 : decode cX9_sum 68 = .ok (.ifCond .eq 14, 3) := by decide +kernel
theorem dX9_sum_71 : decode cX9_sum 71 = .ok (.lload 8, 2) := by decide +kernel
theorem dX9_sum_73 : decode cX9_sum 73 = .ok (.lload 5, 2) := by decide +kernel
theorem dX9_sum_75 : decode cX9_sum 75 = .ok (.lcmp, 1) := by decide +kernel
theorem dX9_sum_76 : decode cX9_sum 76 = .ok (.ifCond .le 18, 3) := by decide +kernel
theorem dX9_sum_79 : decode cX9_sum 79 = .ok (.goto 11, 3) := by decide +kernel
theorem dX9_sum_82 : decode cX9_sum 82 = .ok (.lload 8, 2) := by decide +kernel
theorem dX9_sum_84 : decode cX9_sum 84 = .ok (.lload 5, 2) := by decide +kernel
theorem dX9_sum_86 : decode cX9_sum 86 = .ok (.lcmp, 1) := by decide +kernel
theorem dX9_sum_87 : decode cX9_sum 87 = .ok (.ifCond .ge 7, 3) := by decide +kernel
theorem dX9_sum_90 : decode cX9_sum 90 = .ok (.lload 8, 2) := by decide +kernel
theorem dX9_sum_92 : decode cX9_sum 92 = .ok (.lstore 5, 2) := by decide +kernel
theorem dX9_sum_94 : decode cX9_sum 94 = .ok (.iinc 7 1, 3) := by decide +kernel
theorem dX9_sum_97 : decode cX9_sum 97 = .ok (.goto (-67), 3) := by decide +kernel
theorem dX9_sum_100 : decode cX9_sum 100 = .ok (.lload 5, 2) := by decide +kernel
theorem dX9_sum_102 : decode cX9_sum 102 = .ok (.lreturn, 1) := by decide +kernel
theorem dX9_mend_0 : decode cX9_mend 0 = .ok (.aload_n 0, 1) := by decide +kernel
theorem dX9_mend_1 : decode cX9_mend 1 = .ok (.getfield 36, 3) := by decide +kernel
theorem dX9_mend_4 : decode cX9_mend 4 = .ok (.invokevirtual 183, 3) := by decide +kernel
theorem dX9_mend_7 : decode cX9_mend 7 = .ok (.aload_n 0, 1) := by decide +kernel
theorem dX9_mend_8 : decode cX9_mend 8 = .ok (.getfield 36, 3) := by decide +kernel
theorem dX9_mend_11 : decode cX9_mend 11 = .ok (.invokevirtual 189, 3) := by decide +kernel
theorem dX9_mend_14 : decode cX9_mend 14 = .ok (.istore_n 1, 1) := by decide +kernel
theorem dX9_mend_15 : decode cX9_mend 15 = .ok (.aload_n 0, 1) := by decide +kernel
theorem dX9_mend_16 : decode cX9_mend 16 = .ok (.getfield 18, 3) := by decide +kernel
theorem dX9_mend_19 : decode cX9_mend 19 = .ok (.iload_n 1, 1) := by decide +kernel
theorem dX9_mend_20 : decode cX9_mend 20 = .ok (.invokevirtual 205, 3) := by decide +kernel
theorem dX9_mend_23 : decode cX9_mend 23 = .ok (.iload_n 1, 1) := by decide +kernel
theorem dX9_mend_24 : decode cX9_mend 24 = .ok (.invokestatic 209, 3) := by decide +kernel
theorem dX9_mend_27 : decode cX9_mend 27 = .ok (.ireturn, 1) := by decide +kernel
theorem dX9_settle_0 : decode cX9_settle 0 = .ok (.aload_n 0, 1) := by decide +kernel
theorem dX9_settle_1 : decode cX9_settle 1 = .ok (.iload_n 1, 1) := by decide +kernel
theorem dX9_settle_2 : decode cX9_settle 2 = .ok (.invokevirtual 154, 3) := by decide +kernel
theorem dX9_settle_5 : decode cX9_settle 5 = .ok (.ifCond .ne 5, 3) := by decide +kernel
theorem dX9_settle_8 : decode cX9_settle 8 = .ok (.iconst (-1), 1) := by decide +kernel
theorem dX9_settle_9 : decode cX9_settle 9 = .ok (.ireturn, 1) := by decide +kernel
theorem dX9_settle_10 : decode cX9_settle 10 = .ok (.aload_n 0, 1) := by decide +kernel
theorem dX9_settle_11 : decode cX9_settle 11 = .ok (.getfield 27, 3) := by decide +kernel
theorem dX9_settle_14 : decode cX9_settle 14 = .ok (.getfield 157, 3) := by decide +kernel
theorem dX9_settle_17 : decode cX9_settle 17 = .ok (.iload_n 1, 1) := by decide +kernel
theorem dX9_settle_18 : decode cX9_settle 18 = .ok (.aaload, 1) := by decide +kernel
theorem dX9_settle_19 : decode cX9_settle 19 = .ok (.astore_n 2, 1) := by decide +kernel
theorem dX9_settle_20 : decode cX9_settle 20 = .ok (.aload_n 2, 1) := by decide +kernel
theorem dX9_settle_21 : decode cX9_settle 21 = .ok (.getfield 165, 3) := by decide +kernel
theorem dX9_settle_24 : decode cX9_settle 24 = .ok (.ifCond .eq 10, 3) := by decide +kernel
theorem dX9_settle_27 : decode cX9_settle 27 = .ok (.aload_n 0, 1) := by decide +kernel
theorem dX9_settle_28 : decode cX9_settle 28 = .ok (.bipush (-13), 2) := by decide +kernel
theorem dX9_settle_30 : decode cX9_settle 30 = .ok (.invokevirtual 48, 3) := by decide +kernel
theorem dX9_settle_33 : decode cX9_settle 33 = .ok (.ireturn, 1) := by decide +kernel
theorem dX9_settle_34 : decode cX9_settle 34 = .ok (.aload_n 2, 1) := by decide +kernel
theorem dX9_settle_35 : decode cX9_settle 35 = .ok (.getfield 136, 3) := by decide +kernel
theorem dX9_settle_38 : decode cX9_settle 38 = .ok (.aload_n 2, 1) := by decide +kernel
theorem dX9_settle_39 : decode cX9_settle 39 = .ok (.getfield 141, 3) := by decide +kernel
theorem dX9_settle_42 : decode cX9_settle 42 = .ok (.if_icmp .ne 6, 3) := by decide +kernel
theorem dX9_settle_45 : decode cX9_settle 45 = .ok (.bipush (-3), 2) := by decide +kernel
theorem dX9_settle_47 : decode cX9_settle 47 = .ok (.ireturn, 1) := by decide +kernel
theorem dX9_settle_48 : decode cX9_settle 48 = .ok (.aload_n 0, 1) := by decide +kernel
theorem dX9_settle_49 : decode cX9_settle 49 = .ok (.getfield 18, 3) := by decide +kernel
theorem dX9_settle_52 : decode cX9_settle 52 = .ok (.aload_n 2, 1) := by decide +kernel
theorem dX9_settle_53 : decode cX9_settle 53 = .ok (.getfield 214, 3) := by decide +kernel
theorem dX9_settle_56 : decode cX9_settle 56 = .ok (.aload_n 2, 1) := by decide +kernel
theorem dX9_settle_57 : decode cX9_settle 57 = .ok (.getfield 136, 3) := by decide +kernel
theorem dX9_settle_60 : decode cX9_settle 60 = .ok (.aload_n 2, 1) := by decide +kernel
theorem dX9_settle_61 : decode cX9_settle 61 = .ok (.getfield 141, 3) := by decide +kernel
theorem dX9_settle_64 : decode cX9_settle 64 = .ok (.invokevirtual 215, 3) := by decide +kernel
theorem dX9_settle_67 : decode cX9_settle 67 = .ok (.ireturn, 1) := by decide +kernel
theorem dX9_ask_0 : decode cX9_ask 0 = .ok (.aload_n 0, 1) := by decide +kernel
theorem dX9_ask_1 : decode cX9_ask 1 = .ok (.getfield 43, 3) := by decide +kernel
theorem dX9_ask_4 : decode cX9_ask 4 = .ok (.getfield 219, 3) := by decide +kernel
theorem dX9_ask_7 : decode cX9_ask 7 = .ok (.istore_n 1, 1) := by decide +kernel
theorem dX9_ask_8 : decode cX9_ask 8 = .ok (.aload_n 0, 1) := by decide +kernel
theorem dX9_ask_9 : decode cX9_ask 9 = .ok (.getfield 43, 3) := by decide +kernel
theorem dX9_ask_12 : decode cX9_ask 12 = .ok (.invokevirtual 222, 3) := by decide +kernel
theorem dX9_ask_15 : decode cX9_ask 15 = .ok (.iload_n 1, 1) := by decide +kernel
theorem dX9_ask_16 : decode cX9_ask 16 = .ok (.ireturn, 1) := by decide +kernel
theorem dX9_part_0 : decode cX9_part 0 = .ok (.aload_n 0, 1) := by decide +kernel
theorem dX9_part_1 : decode cX9_part 1 = .ok (.iload_n 1, 1) := by decide +kernel
theorem dX9_part_2 : decode cX9_part 2 = .ok (.invokevirtual 64, 3) := by decide +kernel
theorem dX9_part_5 : decode cX9_part 5 = .ok (.istore_n 2, 1) := by decide +kernel
theorem dX9_part_6 : decode cX9_part 6 = .ok (.iload_n 2, 1) := by decide +kernel
theorem dX9_part_7 : decode cX9_part 7 = .ok (.ifCond .eq 5, 3) := by decide +kernel
theorem dX9_part_10 : decode cX9_part 10 = .ok (.iload_n 2, 1) := by decide +kernel
theorem dX9_part_11 : decode cX9_part 11 = .ok (.ireturn, 1) := by decide +kernel
theorem dX9_part_12 : decode cX9_part 12 = .ok (.aload_n 0, 1) := by decide +kernel
theorem dX9_part_13 : decode cX9_part 13 = .ok (.getfield 43, 3) := by decide +kernel
theorem dX9_part_16 : decode cX9_part 16 = .ok (.getfield 219, 3) := by decide +kernel
theorem dX9_part_19 : decode cX9_part 19 = .ok (.iconst 3, 1) := by decide +kernel
theorem dX9_part_20 : decode cX9_part 20 = .ok (.if_icmp .lt 6, 3) := by decide +kernel
theorem dX9_part_23 : decode cX9_part 23 = .ok (.bipush (-4), 2) := by decide +kernel
theorem dX9_part_25 : decode cX9_part 25 = .ok (.ireturn, 1) := by decide +kernel
theorem dX9_part_26 : decode cX9_part 26 = .ok (.aload_n 0, 1) := by decide +kernel
theorem dX9_part_27 : decode cX9_part 27 = .ok (.getfield 43, 3) := by decide +kernel
theorem dX9_part_30 : decode cX9_part 30 = .ok (.iload_n 1, 1) := by decide +kernel
theorem dX9_part_31 : decode cX9_part 31 = .ok (.invokevirtual 225, 3) := by decide +kernel
theorem dX9_part_34 : decode cX9_part 34 = .ok (.ireturn, 1) := by decide +kernel
theorem dX9_tell_0 : decode cX9_tell 0 = .ok (.aload_n 0, 1) := by decide +kernel
theorem dX9_tell_1 : decode cX9_tell 1 = .ok (.iload_n 1, 1) := by decide +kernel
theorem dX9_tell_2 : decode cX9_tell 2 = .ok (.iload_n 2, 1) := by decide +kernel
theorem dX9_tell_3 : decode cX9_tell 3 = .ok (.invokevirtual 228, 3) := by decide +kernel
theorem dX9_tell_6 : decode cX9_tell 6 = .ok (.istore 5, 2) := by decide +kernel
theorem dX9_tell_8 : decode cX9_tell 8 = .ok (.iload 5, 2) := by decide +kernel
theorem dX9_tell_10 : decode cX9_tell 10 = .ok (.ifCond .eq 6, 3) := by decide +kernel
theorem dX9_tell_13 : decode cX9_tell 13 = .ok (.iload 5, 2) := by decide +kernel
theorem dX9_tell_15 : decode cX9_tell 15 = .ok (.ireturn, 1) := by decide +kernel
theorem dX9_tell_16 : decode cX9_tell 16 = .ok (.aload_n 0, 1) := by decide +kernel
theorem dX9_tell_17 : decode cX9_tell 17 = .ok (.getfield 43, 3) := by decide +kernel
theorem dX9_tell_20 : decode cX9_tell 20 = .ok (.getfield 231, 3) := by decide +kernel
theorem dX9_tell_23 : decode cX9_tell 23 = .ok (.iload_n 1, 1) := by decide +kernel
theorem dX9_tell_24 : decode cX9_tell 24 = .ok (.aaload, 1) := by decide +kernel
theorem dX9_tell_25 : decode cX9_tell 25 = .ok (.getfield 235, 3) := by decide +kernel
theorem dX9_tell_28 : decode cX9_tell 28 = .ok (.iload_n 2, 1) := by decide +kernel
theorem dX9_tell_29 : decode cX9_tell 29 = .ok (.iconst 1, 1) := by decide +kernel
theorem dX9_tell_30 : decode cX9_tell 30 = .ok (.bastore, 1) := by decide +kernel
theorem dX9_tell_31 : decode cX9_tell 31 = .ok (.aload_n 0, 1) := by decide +kernel
theorem dX9_tell_32 : decode cX9_tell 32 = .ok (.getfield 43, 3) := by decide +kernel
theorem dX9_tell_35 : decode cX9_tell 35 = .ok (.getfield 231, 3) := by decide +kernel
theorem dX9_tell_38 : decode cX9_tell 38 = .ok (.iload_n 1, 1) := by decide +kernel
theorem dX9_tell_39 : decode cX9_tell 39 = .ok (.aaload, 1) := by decide +kernel
theorem dX9_tell_40 : decode cX9_tell 40 = .ok (.getfield 240, 3) := by decide +kernel
theorem dX9_tell_43 : decode cX9_tell 43 = .ok (.iload_n 2, 1) := by decide +kernel
theorem dX9_tell_44 : decode cX9_tell 44 = .ok (.lload_n 3, 1) := by decide +kernel
theorem dX9_tell_45 : decode cX9_tell 45 = .ok (.lastore, 1) := by decide +kernel
theorem dX9_tell_46 : decode cX9_tell 46 = .ok (.iconst 1, 1) := by decide +kernel
theorem dX9_tell_47 : decode cX9_tell 47 = .ok (.ireturn, 1) := by decide +kernel
theorem dX9_join_0 : decode cX9_join 0 = .ok (.aload_n 0, 1) := by decide +kernel
theorem dX9_join_1 : decode cX9_join 1 = .ok (.iload_n 1, 1) := by decide +kernel
theorem dX9_join_2 : decode cX9_join 2 = .ok (.invokevirtual 241, 3) := by decide +kernel
theorem dX9_join_5 : decode cX9_join 5 = .ok (.ifCond .eq 11, 3) := by decide +kernel
theorem dX9_join_8 : decode cX9_join 8 = .ok (.aload_n 0, 1) := by decide +kernel
theorem dX9_join_9 : decode cX9_join 9 = .ok (.iload_n 3, 1) := by decide +kernel
theorem dX9_join_10 : decode cX9_join 10 = .ok (.invokevirtual 241, 3) := by decide +kernel
theorem dX9_join_13 : decode cX9_join 13 = .ok (.ifCond .ne 5, 3) := by decide +kernel
theorem dX9_join_16 : decode cX9_join 16 = .ok (.iconst (-1), 1) := by decide +kernel
theorem dX9_join_17 : decode cX9_join 17 = .ok (.ireturn, 1) := by decide +kernel
theorem dX9_join_18 : decode cX9_join 18 = .ok (.aload_n 0, 1) := by decide +kernel
theorem dX9_join_19 : decode cX9_join 19 = .ok (.iload_n 1, 1) := by decide +kernel
theorem dX9_join_20 : decode cX9_join 20 = .ok (.iload_n 2, 1) := by decide +kernel
theorem dX9_join_21 : decode cX9_join 21 = .ok (.invokevirtual 228, 3) := by decide +kernel
theorem dX9_join_24 : decode cX9_join 24 = .ok (.istore 5, 2) := by decide +kernel
theorem dX9_join_26 : decode cX9_join 26 = .ok (.iload 5, 2) := by decide +kernel
theorem dX9_join_28 : decode cX9_join 28 = .ok (.ifCond .ne 12, 3) := by decide +kernel
theorem dX9_join_31 : decode cX9_join 31 = .ok (.aload_n 0, 1) := by decide +kernel
theorem dX9_join_32 : decode cX9_join 32 = .ok (.iload_n 3, 1) := by decide +kernel
theorem dX9_join_33 : decode cX9_join 33 = .ok (.iload 4, 2) := by decide +kernel
theorem dX9_join_35 : decode cX9_join 35 = .ok (.invokevirtual 228, 3) := by decide +kernel
theorem dX9_join_38 : decode cX9_join 38 = .ok (.istore 5, 2) := by decide +kernel
theorem dX9_join_40 : decode cX9_join 40 = .ok (.iload 5, 2) := by decide +kernel
theorem dX9_join_42 : decode cX9_join 42 = .ok (.ifCond .eq 6, 3) := by decide +kernel
theorem dX9_join_45 : decode cX9_join 45 = .ok (.iload 5, 2) := by decide +kernel
theorem dX9_join_47 : decode cX9_join 47 = .ok (.ireturn, 1) := by decide +kernel
theorem dX9_join_48 : decode cX9_join 48 = .ok (.aload_n 0, 1) := by decide +kernel
theorem dX9_join_49 : decode cX9_join 49 = .ok (.getfield 43, 3) := by decide +kernel
theorem dX9_join_52 : decode cX9_join 52 = .ok (.getfield 244, 3) := by decide +kernel
theorem dX9_join_55 : decode cX9_join 55 = .ok (.bipush 6, 2) := by decide +kernel
theorem dX9_join_57 : decode cX9_join 57 = .ok (.if_icmp .lt 6, 3) := by decide +kernel
theorem dX9_join_60 : decode cX9_join 60 = .ok (.bipush (-4), 2) := by decide +kernel
theorem dX9_join_62 : decode cX9_join 62 = .ok (.ireturn, 1) := by decide +kernel
theorem dX9_join_63 : decode cX9_join 63 = .ok (.aload_n 0, 1) := by decide +kernel
theorem dX9_join_64 : decode cX9_join 64 = .ok (.getfield 43, 3) := by decide +kernel
theorem dX9_join_67 : decode cX9_join 67 = .ok (.iload_n 1, 1) := by decide +kernel
theorem dX9_join_68 : decode cX9_join 68 = .ok (.iload_n 2, 1) := by decide +kernel
theorem dX9_join_69 : decode cX9_join 69 = .ok (.iload_n 3, 1) := by decide +kernel
theorem dX9_join_70 : decode cX9_join 70 = .ok (.iload 4, 2) := by decide +kernel
theorem dX9_join_72 : decode cX9_join 72 = .ok (.invokevirtual 247, 3) := by decide +kernel
theorem dX9_join_75 : decode cX9_join 75 = .ok (.ireturn, 1) := by decide +kernel
theorem dX9_stands_0 : decode cX9_stands 0 = .ok (.aload_n 0, 1) := by decide +kernel
theorem dX9_stands_1 : decode cX9_stands 1 = .ok (.getfield 43, 3) := by decide +kernel
theorem dX9_stands_4 : decode cX9_stands 4 = .ok (.aload_n 0, 1) := by decide +kernel
theorem dX9_stands_5 : decode cX9_stands 5 = .ok (.getfield 18, 3) := by decide +kernel
theorem dX9_stands_8 : decode cX9_stands 8 = .ok (.invokevirtual 168, 3) := by decide +kernel
theorem dX9_stands_11 : decode cX9_stands 11 = .ok (.invokevirtual 251, 3) := by decide +kernel
theorem dX9_stands_14 : decode cX9_stands 14 = .ok (.invokestatic 106, 3) := by decide +kernel
theorem dX9_stands_17 : decode cX9_stands 17 = .ok (.ireturn, 1) := by decide +kernel
theorem dX9_often_0 : decode cX9_often 0 = .ok (.aload_n 0, 1) := by decide +kernel
theorem dX9_often_1 : decode cX9_often 1 = .ok (.getfield 36, 3) := by decide +kernel
theorem dX9_often_4 : decode cX9_often 4 = .ok (.invokevirtual 183, 3) := by decide +kernel
theorem dX9_often_7 : decode cX9_often 7 = .ok (.aload_n 0, 1) := by decide +kernel
theorem dX9_often_8 : decode cX9_often 8 = .ok (.invokevirtual 254, 3) := by decide +kernel
theorem dX9_often_11 : decode cX9_often 11 = .ok (.ireturn, 1) := by decide +kernel
theorem dX9_sure_0 : decode cX9_sure 0 = .ok (.aload_n 0, 1) := by decide +kernel
theorem dX9_sure_1 : decode cX9_sure 1 = .ok (.getfield 36, 3) := by decide +kernel
theorem dX9_sure_4 : decode cX9_sure 4 = .ok (.invokevirtual 183, 3) := by decide +kernel
theorem dX9_sure_7 : decode cX9_sure 7 = .ok (.aload_n 0, 1) := by decide +kernel
theorem dX9_sure_8 : decode cX9_sure 8 = .ok (.invokevirtual 254, 3) := by decide +kernel
theorem dX9_sure_11 : decode cX9_sure 11 = .ok (.istore_n 1, 1) := by decide +kernel
theorem dX9_sure_12 : decode cX9_sure 12 = .ok (.iload_n 1, 1) := by decide +kernel
theorem dX9_sure_13 : decode cX9_sure 13 = .ok (.ifCond .ne 5, 3) := by decide +kernel
theorem dX9_sure_16 : decode cX9_sure 16 = .ok (.iconst 0, 1) := by decide +kernel
theorem dX9_sure_17 : decode cX9_sure 17 = .ok (.ireturn, 1) := by decide +kernel
theorem dX9_sure_18 : decode cX9_sure 18 = .ok (.iload_n 1, 1) := by decide +kernel
theorem dX9_sure_19 : decode cX9_sure 19 = .ok (.aload_n 0, 1) := by decide +kernel
theorem dX9_sure_20 : decode cX9_sure 20 = .ok (.getfield 36, 3) := by decide +kernel
theorem dX9_sure_23 : decode cX9_sure 23 = .ok (.getfield 185, 3) := by decide +kernel
theorem dX9_sure_26 : decode cX9_sure 26 = .ok (.if_icmp .ne 7, 3) := by decide +kernel
theorem dX9_sure_29 : decode cX9_sure 29 = .ok (.iconst 2, 1) := by decide +kernel
theorem dX9_sure_30 : decode cX9_sure 30 = .ok (.goto 4, 3) := by decide +kernel
theorem dX9_sure_33 : decode cX9_sure 33 = .ok (.iconst 1, 1) := by decide +kernel
theorem dX9_sure_34 : decode cX9_sure 34 = .ok (.ireturn, 1) := by decide +kernel
theorem dX9_against_0 : decode cX9_against 0 = .ok (.aload_n 0, 1) := by decide +kernel
theorem dX9_against_1 : decode cX9_against 1 = .ok (.getfield 36, 3) := by decide +kernel
theorem dX9_against_4 : decode cX9_against 4 = .ok (.invokevirtual 183, 3) := by decide +kernel
theorem dX9_against_7 : decode cX9_against 7 = .ok (.aload_n 0, 1) := by decide +kernel
theorem dX9_against_8 : decode cX9_against 8 = .ok (.getfield 43, 3) := by decide +kernel
theorem dX9_against_11 : decode cX9_against 11 = .ok (.aload_n 0, 1) := by decide +kernel
theorem dX9_against_12 : decode cX9_against 12 = .ok (.getfield 36, 3) := by decide +kernel
theorem dX9_against_15 : decode cX9_against 15 = .ok (.getfield 257, 3) := by decide +kernel
theorem dX9_against_18 : decode cX9_against 18 = .ok (.invokevirtual 259, 3) := by decide +kernel
theorem dX9_against_21 : decode cX9_against 21 = .ok (.iconst 0, 1) := by decide +kernel
theorem dX9_against_22 : decode cX9_against 22 = .ok (.istore_n 1, 1) := by decide +kernel
theorem dX9_against_23 : decode cX9_against 23 = .ok (.iload_n 1, 1) := by decide +kernel
theorem dX9_against_24 : decode cX9_against 24 = .ok (.aload_n 0, 1) := by decide +kernel
theorem dX9_against_25 : decode cX9_against 25 = .ok (.getfield 36, 3) := by decide +kernel
theorem dX9_against_28 : decode cX9_against 28 = .ok (.getfield 185, 3) := by decide +kernel
theorem dX9_against_31 : decode cX9_against 31 = .ok (.if_icmp .ge 38, 3) := by decide +kernel
theorem dX9_against_34 : decode cX9_against 34 = .ok (.aload_n 0, 1) := by decide +kernel
theorem dX9_against_35 : decode cX9_against 35 = .ok (.getfield 43, 3) := by decide +kernel
theorem dX9_against_38 : decode cX9_against 38 = .ok (.getfield 262, 3) := by decide +kernel
theorem dX9_against_41 : decode cX9_against 41 = .ok (.aload_n 0, 1) := by decide +kernel
theorem dX9_against_42 : decode cX9_against 42 = .ok (.getfield 36, 3) := by decide +kernel
theorem dX9_against_45 : decode cX9_against 45 = .ok (.iload_n 1, 1) := by decide +kernel
theorem dX9_against_46 : decode cX9_against 46 = .ok (.invokevirtual 198, 3) := by decide +kernel
theorem dX9_against_49 : decode cX9_against 49 = .ok (.baload, 1) := by decide +kernel
theorem dX9_against_50 : decode cX9_against 50 = .ok (.ifCond .ne 13, 3) := by decide +kernel
theorem dX9_against_53 : decode cX9_against 53 = .ok (.aload_n 0, 1) := by decide +kernel
theorem dX9_against_54 : decode cX9_against 54 = .ok (.getfield 36, 3) := by decide +kernel
theorem dX9_against_57 : decode cX9_against 57 = .ok (.getfield 186, 3) := by decide +kernel
theorem dX9_against_60 : decode cX9_against 60 = .ok (.iload_n 1, 1) := by decide +kernel
theorem dX9_against_61 : decode cX9_against 61 = .ok (.iaload, 1) := by decide +kernel
theorem dX9_against_62 : decode cX9_against 62 = .ok (.ireturn, 1) := by decide +kernel
theorem dX9_against_63 : decode cX9_against 63 = .ok (.iinc 1 1, 3) := by decide +kernel
theorem dX9_against_66 : decode cX9_against 66 = .ok (.goto (-43), 3) := by decide +kernel
theorem dX9_against_69 : decode cX9_against 69 = .ok (.bipush (-9), 2) := by decide +kernel
theorem dX9_against_71 : decode cX9_against 71 = .ok (.ireturn, 1) := by decide +kernel
theorem dX9_count_0 : decode cX9_count 0 = .ok (.iload_n 1, 1) := by decide +kernel
theorem dX9_count_1 : decode cX9_count 1 = .ok (.tableswitch 96 0 6 #[43, 51, 59, 67, 75, 80, 91], 43) := by decide +kernel
theorem dX9_count_44 : decode cX9_count 44 = .ok (.aload_n 0, 1) := by decide +kernel
theorem dX9_count_45 : decode cX9_count 45 = .ok (.getfield 18, 3) := by decide +kernel
theorem dX9_count_48 : decode cX9_count 48 = .ok (.getfield 71, 3) := by decide +kernel
theorem dX9_count_51 : decode cX9_count 51 = .ok (.ireturn, 1) := by decide +kernel
theorem dX9_count_52 : decode cX9_count 52 = .ok (.aload_n 0, 1) := by decide +kernel
theorem dX9_count_53 : decode cX9_count 53 = .ok (.getfield 27, 3) := by decide +kernel
theorem dX9_count_56 : decode cX9_count 56 = .ok (.getfield 126, 3) := by decide +kernel
theorem dX9_count_59 : decode cX9_count 59 = .ok (.ireturn, 1) := by decide +kernel
theorem dX9_count_60 : decode cX9_count 60 = .ok (.aload_n 0, 1) := by decide +kernel
theorem dX9_count_61 : decode cX9_count 61 = .ok (.getfield 43, 3) := by decide +kernel
theorem dX9_count_64 : decode cX9_count 64 = .ok (.getfield 219, 3) := by decide +kernel
theorem dX9_count_67 : decode cX9_count 67 = .ok (.ireturn, 1) := by decide +kernel
theorem dX9_count_68 : decode cX9_count 68 = .ok (.aload_n 0, 1) := by decide +kernel
theorem dX9_count_69 : decode cX9_count 69 = .ok (.getfield 43, 3) := by decide +kernel
theorem dX9_count_72 : decode cX9_count 72 = .ok (.getfield 244, 3) := by decide +kernel
theorem dX9_count_75 : decode cX9_count 75 = .ok (.ireturn, 1) := by decide +kernel
theorem dX9_count_76 : decode cX9_count 76 = .ok (.aload_n 0, 1) := by decide +kernel
theorem dX9_count_77 : decode cX9_count 77 = .ok (.getfield 265, 3) := by decide +kernel
theorem dX9_count_80 : decode cX9_count 80 = .ok (.ireturn, 1) := by decide +kernel
theorem dX9_count_81 : decode cX9_count 81 = .ok (.aload_n 0, 1) := by decide +kernel
theorem dX9_count_82 : decode cX9_count 82 = .ok (.getfield 18, 3) := by decide +kernel
theorem dX9_count_85 : decode cX9_count 85 = .ok (.invokevirtual 168, 3) := by decide +kernel
theorem dX9_count_88 : decode cX9_count 88 = .ok (.invokestatic 209, 3) := by decide +kernel
theorem dX9_count_91 : decode cX9_count 91 = .ok (.ireturn, 1) := by decide +kernel
theorem dX9_count_92 : decode cX9_count 92 = .ok (.aload_n 0, 1) := by decide +kernel
theorem dX9_count_93 : decode cX9_count 93 = .ok (.invokevirtual 268, 3) := by decide +kernel
theorem dX9_count_96 : decode cX9_count 96 = .ok (.ireturn, 1) := by decide +kernel
theorem dX9_count_97 : decode cX9_count 97 = .ok (.bipush (-2), 2) := by decide +kernel
theorem dX9_count_99 : decode cX9_count 99 = .ok (.ireturn, 1) := by decide +kernel
theorem dX9_found_0 : decode cX9_found 0 = .ok (.aload_n 0, 1) := by decide +kernel
theorem dX9_found_1 : decode cX9_found 1 = .ok (.dup, 1) := by decide +kernel
theorem dX9_found_2 : decode cX9_found 2 = .ok (.getfield 265, 3) := by decide +kernel
theorem dX9_found_5 : decode cX9_found 5 = .ok (.iconst 1, 1) := by decide +kernel
theorem dX9_found_6 : decode cX9_found 6 = .ok (.iadd, 1) := by decide +kernel
theorem dX9_found_7 : decode cX9_found 7 = .ok (.putfield 265, 3) := by decide +kernel
theorem dX9_found_10 : decode cX9_found 10 = .ok (.iload_n 1, 1) := by decide +kernel
theorem dX9_found_11 : decode cX9_found 11 = .ok (.ireturn, 1) := by decide +kernel
theorem dX9_faultOfTable_0 : decode cX9_faultOfTable 0 = .ok (.iload_n 1, 1) := by decide +kernel
theorem dX9_faultOfTable_1 : decode cX9_faultOfTable 1 = .ok (.ifCond .lt 8, 3) := by decide +kernel
theorem dX9_faultOfTable_4 : decode cX9_faultOfTable 4 = .ok (.iload_n 1, 1) := by decide +kernel
theorem dX9_faultOfTable_5 : decode cX9_faultOfTable 5 = .ok (.iconst 4, 1) := by decide +kernel
theorem dX9_faultOfTable_6 : decode cX9_faultOfTable 6 = .ok (.if_icmp .lt 10, 3) := by decide +kernel
theorem dX9_faultOfTable_9 : decode cX9_faultOfTable 9 = .ok (.aload_n 0, 1) := by decide +kernel
theorem dX9_faultOfTable_10 : decode cX9_faultOfTable 10 = .ok (.bipush (-12), 2) := by decide +kernel
theorem dX9_faultOfTable_12 : decode cX9_faultOfTable 12 = .ok (.invokevirtual 48, 3) := by decide +kernel
theorem dX9_faultOfTable_15 : decode cX9_faultOfTable 15 = .ok (.ireturn, 1) := by decide +kernel
theorem dX9_faultOfTable_16 : decode cX9_faultOfTable 16 = .ok (.aload_n 0, 1) := by decide +kernel
theorem dX9_faultOfTable_17 : decode cX9_faultOfTable 17 = .ok (.getfield 11, 3) := by decide +kernel
theorem dX9_faultOfTable_20 : decode cX9_faultOfTable 20 = .ok (.iload_n 1, 1) := by decide +kernel
theorem dX9_faultOfTable_21 : decode cX9_faultOfTable 21 = .ok (.aaload, 1) := by decide +kernel
theorem dX9_faultOfTable_22 : decode cX9_faultOfTable 22 = .ok (.getfield 56, 3) := by decide +kernel
theorem dX9_faultOfTable_25 : decode cX9_faultOfTable 25 = .ok (.ifCond .ne 12, 3) := by decide +kernel
theorem dX9_faultOfTable_28 : decode cX9_faultOfTable 28 = .ok (.aload_n 0, 1) := by decide +kernel
theorem dX9_faultOfTable_29 : decode cX9_faultOfTable 29 = .ok (.bipush (-11), 2) := by decide +kernel
theorem dX9_faultOfTable_31 : decode cX9_faultOfTable 31 = .ok (.invokevirtual 48, 3) := by decide +kernel
theorem dX9_faultOfTable_34 : decode cX9_faultOfTable 34 = .ok (.goto 4, 3) := by decide +kernel
theorem dX9_faultOfTable_37 : decode cX9_faultOfTable 37 = .ok (.iconst 0, 1) := by decide +kernel
theorem dX9_faultOfTable_38 : decode cX9_faultOfTable 38 = .ok (.ireturn, 1) := by decide +kernel
theorem dX9_faultOfColumn_0 : decode cX9_faultOfColumn 0 = .ok (.iload_n 2, 1) := by decide +kernel
theorem dX9_faultOfColumn_1 : decode cX9_faultOfColumn 1 = .ok (.ifCond .lt 16, 3) := by decide +kernel
theorem dX9_faultOfColumn_4 : decode cX9_faultOfColumn 4 = .ok (.iload_n 2, 1) := by decide +kernel
theorem dX9_faultOfColumn_5 : decode cX9_faultOfColumn 5 = .ok (.aload_n 0, 1) := by decide +kernel
theorem dX9_faultOfColumn_6 : decode cX9_faultOfColumn 6 = .ok (.getfield 11, 3) := by decide +kernel
theorem dX9_faultOfColumn_9 : decode cX9_faultOfColumn 9 = .ok (.iload_n 1, 1) := by decide +kernel
theorem dX9_faultOfColumn_10 : decode cX9_faultOfColumn 10 = .ok (.aaload, 1) := by decide +kernel
theorem dX9_faultOfColumn_11 : decode cX9_faultOfColumn 11 = .ok (.getfield 56, 3) := by decide +kernel
theorem dX9_faultOfColumn_14 : decode cX9_faultOfColumn 14 = .ok (.if_icmp .lt 12, 3) := by decide +kernel
theorem dX9_faultOfColumn_17 : decode cX9_faultOfColumn 17 = .ok (.aload_n 0, 1) := by decide +kernel
theorem dX9_faultOfColumn_18 : decode cX9_faultOfColumn 18 = .ok (.bipush (-12), 2) := by decide +kernel
theorem dX9_faultOfColumn_20 : decode cX9_faultOfColumn 20 = .ok (.invokevirtual 48, 3) := by decide +kernel
theorem dX9_faultOfColumn_23 : decode cX9_faultOfColumn 23 = .ok (.goto 4, 3) := by decide +kernel
theorem dX9_faultOfColumn_26 : decode cX9_faultOfColumn 26 = .ok (.iconst 0, 1) := by decide +kernel
theorem dX9_faultOfColumn_27 : decode cX9_faultOfColumn 27 = .ok (.ireturn, 1) := by decide +kernel
theorem dX9_faultOfColumnIn_0 : decode cX9_faultOfColumnIn 0 = .ok (.aload_n 0, 1) := by decide +kernel
theorem dX9_faultOfColumnIn_1 : decode cX9_faultOfColumnIn 1 = .ok (.iload_n 1, 1) := by decide +kernel
theorem dX9_faultOfColumnIn_2 : decode cX9_faultOfColumnIn 2 = .ok (.invokevirtual 64, 3) := by decide +kernel
theorem dX9_faultOfColumnIn_5 : decode cX9_faultOfColumnIn 5 = .ok (.istore_n 3, 1) := by decide +kernel
theorem dX9_faultOfColumnIn_6 : decode cX9_faultOfColumnIn 6 = .ok (.iload_n 3, 1) := by decide +kernel
theorem dX9_faultOfColumnIn_7 : decode cX9_faultOfColumnIn 7 = .ok (.ifCond .eq 7, 3) := by decide +kernel
theorem dX9_faultOfColumnIn_10 : decode cX9_faultOfColumnIn 10 = .ok (.iload_n 3, 1) := by decide +kernel
theorem dX9_faultOfColumnIn_11 : decode cX9_faultOfColumnIn 11 = .ok (.goto 9, 3) := by decide +kernel
theorem dX9_faultOfColumnIn_14 : decode cX9_faultOfColumnIn 14 = .ok (.aload_n 0, 1) := by decide +kernel
theorem dX9_faultOfColumnIn_15 : decode cX9_faultOfColumnIn 15 = .ok (.iload_n 1, 1) := by decide +kernel
theorem dX9_faultOfColumnIn_16 : decode cX9_faultOfColumnIn 16 = .ok (.iload_n 2, 1) := by decide +kernel
theorem dX9_faultOfColumnIn_17 : decode cX9_faultOfColumnIn 17 = .ok (.invokevirtual 110, 3) := by decide +kernel
theorem dX9_faultOfColumnIn_20 : decode cX9_faultOfColumnIn 20 = .ok (.ireturn, 1) := by decide +kernel
theorem dX9_faultOfCell_0 : decode cX9_faultOfCell 0 = .ok (.aload_n 0, 1) := by decide +kernel
theorem dX9_faultOfCell_1 : decode cX9_faultOfCell 1 = .ok (.iload_n 1, 1) := by decide +kernel
theorem dX9_faultOfCell_2 : decode cX9_faultOfCell 2 = .ok (.invokevirtual 116, 3) := by decide +kernel
theorem dX9_faultOfCell_5 : decode cX9_faultOfCell 5 = .ok (.ifCond .eq 23, 3) := by decide +kernel
theorem dX9_faultOfCell_8 : decode cX9_faultOfCell 8 = .ok (.aload_n 0, 1) := by decide +kernel
theorem dX9_faultOfCell_9 : decode cX9_faultOfCell 9 = .ok (.aload_n 0, 1) := by decide +kernel
theorem dX9_faultOfCell_10 : decode cX9_faultOfCell 10 = .ok (.getfield 18, 3) := by decide +kernel
theorem dX9_faultOfCell_13 : decode cX9_faultOfCell 13 = .ok (.getfield 81, 3) := by decide +kernel
theorem dX9_faultOfCell_16 : decode cX9_faultOfCell 16 = .ok (.iload_n 1, 1) := by decide +kernel
theorem dX9_faultOfCell_17 : decode cX9_faultOfCell 17 = .ok (.aaload, 1) := by decide +kernel
theorem dX9_faultOfCell_18 : decode cX9_faultOfCell 18 = .ok (.getfield 91, 3) := by decide +kernel
theorem dX9_faultOfCell_21 : decode cX9_faultOfCell 21 = .ok (.iload_n 2, 1) := by decide +kernel
theorem dX9_faultOfCell_22 : decode cX9_faultOfCell 22 = .ok (.invokevirtual 110, 3) := by decide +kernel
theorem dX9_faultOfCell_25 : decode cX9_faultOfCell 25 = .ok (.goto 4, 3) := by decide +kernel
theorem dX9_faultOfCell_28 : decode cX9_faultOfCell 28 = .ok (.iconst (-1), 1) := by decide +kernel
theorem dX9_faultOfCell_29 : decode cX9_faultOfCell 29 = .ok (.ireturn, 1) := by decide +kernel
theorem dX9_faultOfPart_0 : decode cX9_faultOfPart 0 = .ok (.aload_n 0, 1) := by decide +kernel
theorem dX9_faultOfPart_1 : decode cX9_faultOfPart 1 = .ok (.iload_n 1, 1) := by decide +kernel
theorem dX9_faultOfPart_2 : decode cX9_faultOfPart 2 = .ok (.invokevirtual 241, 3) := by decide +kernel
theorem dX9_faultOfPart_5 : decode cX9_faultOfPart 5 = .ok (.ifCond .eq 23, 3) := by decide +kernel
theorem dX9_faultOfPart_8 : decode cX9_faultOfPart 8 = .ok (.aload_n 0, 1) := by decide +kernel
theorem dX9_faultOfPart_9 : decode cX9_faultOfPart 9 = .ok (.aload_n 0, 1) := by decide +kernel
theorem dX9_faultOfPart_10 : decode cX9_faultOfPart 10 = .ok (.getfield 43, 3) := by decide +kernel
theorem dX9_faultOfPart_13 : decode cX9_faultOfPart 13 = .ok (.getfield 231, 3) := by decide +kernel
theorem dX9_faultOfPart_16 : decode cX9_faultOfPart 16 = .ok (.iload_n 1, 1) := by decide +kernel
theorem dX9_faultOfPart_17 : decode cX9_faultOfPart 17 = .ok (.aaload, 1) := by decide +kernel
theorem dX9_faultOfPart_18 : decode cX9_faultOfPart 18 = .ok (.getfield 271, 3) := by decide +kernel
theorem dX9_faultOfPart_21 : decode cX9_faultOfPart 21 = .ok (.iload_n 2, 1) := by decide +kernel
theorem dX9_faultOfPart_22 : decode cX9_faultOfPart 22 = .ok (.invokevirtual 110, 3) := by decide +kernel
theorem dX9_faultOfPart_25 : decode cX9_faultOfPart 25 = .ok (.goto 4, 3) := by decide +kernel
theorem dX9_faultOfPart_28 : decode cX9_faultOfPart 28 = .ok (.iconst (-1), 1) := by decide +kernel
theorem dX9_faultOfPart_29 : decode cX9_faultOfPart 29 = .ok (.ireturn, 1) := by decide +kernel
theorem dX9_isRow_0 : decode cX9_isRow 0 = .ok (.iload_n 1, 1) := by decide +kernel
theorem dX9_isRow_1 : decode cX9_isRow 1 = .ok (.ifCond .lt 18, 3) := by decide +kernel
theorem dX9_isRow_4 : decode cX9_isRow 4 = .ok (.iload_n 1, 1) := by decide +kernel
theorem dX9_isRow_5 : decode cX9_isRow 5 = .ok (.aload_n 0, 1) := by decide +kernel
theorem dX9_isRow_6 : decode cX9_isRow 6 = .ok (.getfield 18, 3) := by decide +kernel
theorem dX9_isRow_9 : decode cX9_isRow 9 = .ok (.getfield 71, 3) := by decide +kernel
theorem dX9_isRow_12 : decode cX9_isRow 12 = .ok (.if_icmp .ge 7, 3) := by decide +kernel
theorem dX9_isRow_15 : decode cX9_isRow 15 = .ok (.iconst 1, 1) := by decide +kernel
theorem dX9_isRow_16 : decode cX9_isRow 16 = .ok (.goto 4, 3) := by decide +kernel
theorem dX9_isRow_19 : decode cX9_isRow 19 = .ok (.iconst 0, 1) := by decide +kernel
theorem dX9_isRow_20 : decode cX9_isRow 20 = .ok (.ireturn, 1) := by decide +kernel
theorem dX9_isLaw_0 : decode cX9_isLaw 0 = .ok (.iload_n 1, 1) := by decide +kernel
theorem dX9_isLaw_1 : decode cX9_isLaw 1 = .ok (.ifCond .lt 18, 3) := by decide +kernel
theorem dX9_isLaw_4 : decode cX9_isLaw 4 = .ok (.iload_n 1, 1) := by decide +kernel
theorem dX9_isLaw_5 : decode cX9_isLaw 5 = .ok (.aload_n 0, 1) := by decide +kernel
theorem dX9_isLaw_6 : decode cX9_isLaw 6 = .ok (.getfield 27, 3) := by decide +kernel
theorem dX9_isLaw_9 : decode cX9_isLaw 9 = .ok (.getfield 126, 3) := by decide +kernel
theorem dX9_isLaw_12 : decode cX9_isLaw 12 = .ok (.if_icmp .ge 7, 3) := by decide +kernel
theorem dX9_isLaw_15 : decode cX9_isLaw 15 = .ok (.iconst 1, 1) := by decide +kernel
theorem dX9_isLaw_16 : decode cX9_isLaw 16 = .ok (.goto 4, 3) := by decide +kernel
theorem dX9_isLaw_19 : decode cX9_isLaw 19 = .ok (.iconst 0, 1) := by decide +kernel
theorem dX9_isLaw_20 : decode cX9_isLaw 20 = .ok (.ireturn, 1) := by decide +kernel
theorem dX9_isPart_0 : decode cX9_isPart 0 = .ok (.iload_n 1, 1) := by decide +kernel
theorem dX9_isPart_1 : decode cX9_isPart 1 = .ok (.ifCond .lt 18, 3) := by decide +kernel
theorem dX9_isPart_4 : decode cX9_isPart 4 = .ok (.iload_n 1, 1) := by decide +kernel
theorem dX9_isPart_5 : decode cX9_isPart 5 = .ok (.aload_n 0, 1) := by decide +kernel
theorem dX9_isPart_6 : decode cX9_isPart 6 = .ok (.getfield 43, 3) := by decide +kernel
theorem dX9_isPart_9 : decode cX9_isPart 9 = .ok (.getfield 219, 3) := by decide +kernel
theorem dX9_isPart_12 : decode cX9_isPart 12 = .ok (.if_icmp .ge 7, 3) := by decide +kernel
theorem dX9_isPart_15 : decode cX9_isPart 15 = .ok (.iconst 1, 1) := by decide +kernel
theorem dX9_isPart_16 : decode cX9_isPart 16 = .ok (.goto 4, 3) := by decide +kernel
theorem dX9_isPart_19 : decode cX9_isPart 19 = .ok (.iconst 0, 1) := by decide +kernel
theorem dX9_isPart_20 : decode cX9_isPart 20 = .ok (.ireturn, 1) := by decide +kernel
theorem dX9_isTrust_0 : decode cX9_isTrust 0 = .ok (.iload_n 0, 1) := by decide +kernel
theorem dX9_isTrust_1 : decode cX9_isTrust 1 = .ok (.iconst 1, 1) := by decide +kernel
theorem dX9_isTrust_2 : decode cX9_isTrust 2 = .ok (.if_icmp .lt 13, 3) := by decide +kernel
theorem dX9_isTrust_5 : decode cX9_isTrust 5 = .ok (.iload_n 0, 1) := by decide +kernel
theorem dX9_isTrust_6 : decode cX9_isTrust 6 = .ok (.bipush 100, 2) := by decide +kernel
theorem dX9_isTrust_8 : decode cX9_isTrust 8 = .ok (.if_icmp .gt 7, 3) := by decide +kernel
theorem dX9_isTrust_11 : decode cX9_isTrust 11 = .ok (.iconst 1, 1) := by decide +kernel
theorem dX9_isTrust_12 : decode cX9_isTrust 12 = .ok (.goto 4, 3) := by decide +kernel
theorem dX9_isTrust_15 : decode cX9_isTrust 15 = .ok (.iconst 0, 1) := by decide +kernel
theorem dX9_isTrust_16 : decode cX9_isTrust 16 = .ok (.ireturn, 1) := by decide +kernel
theorem dX9_areLanes_0 : decode cX9_areLanes 0 = .ok (.iload_n 1, 1) := by decide +kernel
theorem dX9_areLanes_1 : decode cX9_areLanes 1 = .ok (.istore_n 2, 1) := by decide +kernel
theorem dX9_areLanes_2 : decode cX9_areLanes 2 = .ok (.iconst 0, 1) := by decide +kernel
theorem dX9_areLanes_3 : decode cX9_areLanes 3 = .ok (.istore_n 3, 1) := by decide +kernel
theorem dX9_areLanes_4 : decode cX9_areLanes 4 = .ok (.iload_n 3, 1) := by decide +kernel
theorem dX9_areLanes_5 : decode cX9_areLanes 5 = .ok (.iload_n 0, 1) := by decide +kernel
theorem dX9_areLanes_6 : decode cX9_areLanes 6 = .ok (.if_icmp .ge 28, 3) := by decide +kernel
theorem dX9_areLanes_9 : decode cX9_areLanes 9 = .ok (.iload_n 2, 1) := by decide +kernel
theorem dX9_areLanes_10 : decode cX9_areLanes 10 = .ok (.ifCond .lt 11, 3) := by decide +kernel
theorem dX9_areLanes_13 : decode cX9_areLanes 13 = .ok (.iload_n 2, 1) := by decide +kernel
theorem dX9_areLanes_14 : decode cX9_areLanes 14 = .ok (.bipush 10, 2) := by decide +kernel
theorem dX9_areLanes_16 : decode cX9_areLanes 16 = .ok (.irem, 1) := by decide +kernel
theorem dX9_areLanes_17 : decode cX9_areLanes 17 = .ok (.iconst 5, 1) := by decide +kernel
theorem dX9_areLanes_18 : decode cX9_areLanes 18 = .ok (.if_icmp .le 5, 3) := by decide +kernel
theorem dX9_areLanes_21 : decode cX9_areLanes 21 = .ok (.iconst 0, 1) := by decide +kernel
theorem dX9_areLanes_22 : decode cX9_areLanes 22 = .ok (.ireturn, 1) := by decide +kernel
theorem dX9_areLanes_23 : decode cX9_areLanes 23 = .ok (.iload_n 2, 1) := by decide +kernel
theorem dX9_areLanes_24 : decode cX9_areLanes 24 = .ok (.bipush 10, 2) := by decide +kernel
theorem dX9_areLanes_26 : decode cX9_areLanes 26 = .ok (.idiv, 1) := by decide +kernel
theorem dX9_areLanes_27 : decode cX9_areLanes 27 = .ok (.istore_n 2, 1) := by decide +kernel
theorem dX9_areLanes_28 : decode cX9_areLanes 28 = .ok (.iinc 3 1, 3) := by decide +kernel
theorem dX9_areLanes_31 : decode cX9_areLanes 31 = .ok (.goto (-27), 3) := by decide +kernel
theorem dX9_areLanes_34 : decode cX9_areLanes 34 = .ok (.iload_n 2, 1) := by decide +kernel
theorem dX9_areLanes_35 : decode cX9_areLanes 35 = .ok (.ifCond .ne 7, 3) := by decide +kernel
theorem dX9_areLanes_38 : decode cX9_areLanes 38 = .ok (.iconst 1, 1) := by decide +kernel
theorem dX9_areLanes_39 : decode cX9_areLanes 39 = .ok (.goto 4, 3) := by decide +kernel
theorem dX9_areLanes_42 : decode cX9_areLanes 42 = .ok (.iconst 0, 1) := by decide +kernel
theorem dX9_areLanes_43 : decode cX9_areLanes 43 = .ok (.ireturn, 1) := by decide +kernel
theorem dX9_looksAtTwo_0 : decode cX9_looksAtTwo 0 = .ok (.iload_n 0, 1) := by decide +kernel
theorem dX9_looksAtTwo_1 : decode cX9_looksAtTwo 1 = .ok (.ifCond .eq 13, 3) := by decide +kernel
theorem dX9_looksAtTwo_4 : decode cX9_looksAtTwo 4 = .ok (.iload_n 0, 1) := by decide +kernel
theorem dX9_looksAtTwo_5 : decode cX9_looksAtTwo 5 = .ok (.iconst 2, 1) := by decide +kernel
theorem dX9_looksAtTwo_6 : decode cX9_looksAtTwo 6 = .ok (.if_icmp .eq 8, 3) := by decide +kernel
theorem dX9_looksAtTwo_9 : decode cX9_looksAtTwo 9 = .ok (.iload_n 0, 1) := by decide +kernel
theorem dX9_looksAtTwo_10 : decode cX9_looksAtTwo 10 = .ok (.iconst 4, 1) := by decide +kernel
theorem dX9_looksAtTwo_11 : decode cX9_looksAtTwo 11 = .ok (.if_icmp .ne 7, 3) := by decide +kernel
theorem dX9_looksAtTwo_14 : decode cX9_looksAtTwo 14 = .ok (.iconst 1, 1) := by decide +kernel
theorem dX9_looksAtTwo_15 : decode cX9_looksAtTwo 15 = .ok (.goto 4, 3) := by decide +kernel
theorem dX9_looksAtTwo_18 : decode cX9_looksAtTwo 18 = .ok (.iconst 0, 1) := by decide +kernel
theorem dX9_looksAtTwo_19 : decode cX9_looksAtTwo 19 = .ok (.ireturn, 1) := by decide +kernel
theorem dX9_manyTables_0 : decode cX9_manyTables 0 = .ok (.iconst 0, 1) := by decide +kernel
theorem dX9_manyTables_1 : decode cX9_manyTables 1 = .ok (.istore_n 1, 1) := by decide +kernel
theorem dX9_manyTables_2 : decode cX9_manyTables 2 = .ok (.iconst 0, 1) := by decide +kernel
theorem dX9_manyTables_3 : decode cX9_manyTables 3 = .ok (.istore_n 2, 1) := by decide +kernel
theorem dX9_manyTables_4 : decode cX9_manyTables 4 = .ok (.iload_n 2, 1) := by decide +kernel
theorem dX9_manyTables_5 : decode cX9_manyTables 5 = .ok (.iconst 4, 1) := by decide +kernel
theorem dX9_manyTables_6 : decode cX9_manyTables 6 = .ok (.if_icmp .ge 32, 3) := by decide +kernel
theorem dX9_manyTables_9 : decode cX9_manyTables 9 = .ok (.iload_n 1, 1) := by decide +kernel
theorem dX9_manyTables_10 : decode cX9_manyTables 10 = .ok (.aload_n 0, 1) := by decide +kernel
theorem dX9_manyTables_11 : decode cX9_manyTables 11 = .ok (.getfield 11, 3) := by decide +kernel
theorem dX9_manyTables_14 : decode cX9_manyTables 14 = .ok (.iload_n 2, 1) := by decide +kernel
theorem dX9_manyTables_15 : decode cX9_manyTables 15 = .ok (.aaload, 1) := by decide +kernel
theorem dX9_manyTables_16 : decode cX9_manyTables 16 = .ok (.getfield 56, 3) := by decide +kernel
theorem dX9_manyTables_19 : decode cX9_manyTables 19 = .ok (.ifCond .eq 7, 3) := by decide +kernel
theorem dX9_manyTables_22 : decode cX9_manyTables 22 = .ok (.iconst 1, 1) := by decide +kernel
theorem dX9_manyTables_23 : decode cX9_manyTables 23 = .ok (.goto 4, 3) := by decide +kernel
theorem dX9_manyTables_26 : decode cX9_manyTables 26 = .ok (.iconst 0, 1) := by decide +kernel
theorem dX9_manyTables_27 : decode cX9_manyTables 27 = .ok (.invokestatic 106, 3) := by decide +kernel
theorem dX9_manyTables_30 : decode cX9_manyTables 30 = .ok (.iadd, 1) := by decide +kernel
theorem dX9_manyTables_31 : decode cX9_manyTables 31 = .ok (.istore_n 1, 1) := by decide +kernel
theorem dX9_manyTables_32 : decode cX9_manyTables 32 = .ok (.iinc 2 1, 3) := by decide +kernel
theorem dX9_manyTables_35 : decode cX9_manyTables 35 = .ok (.goto (-31), 3) := by decide +kernel
theorem dX9_manyTables_38 : decode cX9_manyTables 38 = .ok (.iload_n 1, 1) := by decide +kernel
theorem dX9_manyTables_39 : decode cX9_manyTables 39 = .ok (.ireturn, 1) := by decide +kernel
theorem dX9_timesStanding_0 : decode cX9_timesStanding 0 = .ok (.aload_n 0, 1) := by decide +kernel
theorem dX9_timesStanding_1 : decode cX9_timesStanding 1 = .ok (.getfield 43, 3) := by decide +kernel
theorem dX9_timesStanding_4 : decode cX9_timesStanding 4 = .ok (.aload_n 0, 1) := by decide +kernel
theorem dX9_timesStanding_5 : decode cX9_timesStanding 5 = .ok (.getfield 36, 3) := by decide +kernel
theorem dX9_timesStanding_8 : decode cX9_timesStanding 8 = .ok (.getfield 257, 3) := by decide +kernel
theorem dX9_timesStanding_11 : decode cX9_timesStanding 11 = .ok (.invokevirtual 259, 3) := by decide +kernel
theorem dX9_timesStanding_14 : decode cX9_timesStanding 14 = .ok (.iconst 0, 1) := by decide +kernel
theorem dX9_timesStanding_15 : decode cX9_timesStanding 15 = .ok (.istore_n 1, 1) := by decide +kernel
theorem dX9_timesStanding_16 : decode cX9_timesStanding 16 = .ok (.iconst 0, 1) := by decide +kernel
theorem dX9_timesStanding_17 : decode cX9_timesStanding 17 = .ok (.istore_n 2, 1) := by decide +kernel
theorem dX9_timesStanding_18 : decode cX9_timesStanding 18 = .ok (.iload_n 2, 1) := by decide +kernel
theorem dX9_timesStanding_19 : decode cX9_timesStanding 19 = .ok (.aload_n 0, 1) := by decide +kernel
theorem dX9_timesStanding_20 : decode cX9_timesStanding 20 = .ok (.getfield 36, 3) := by decide +kernel
theorem dX9_timesStanding_23 : decode cX9_timesStanding 23 = .ok (.getfield 185, 3) := by decide +kernel
theorem dX9_timesStanding_26 : decode cX9_timesStanding 26 = .ok (.if_icmp .ge 31, 3) := by decide +kernel
theorem dX9_timesStanding_29 : decode cX9_timesStanding 29 = .ok (.iload_n 1, 1) := by decide +kernel
theorem dX9_timesStanding_30 : decode cX9_timesStanding 30 = .ok (.aload_n 0, 1) := by decide +kernel
theorem dX9_timesStanding_31 : decode cX9_timesStanding 31 = .ok (.getfield 43, 3) := by decide +kernel
theorem dX9_timesStanding_34 : decode cX9_timesStanding 34 = .ok (.getfield 262, 3) := by decide +kernel
theorem dX9_timesStanding_37 : decode cX9_timesStanding 37 = .ok (.aload_n 0, 1) := by decide +kernel
theorem dX9_timesStanding_38 : decode cX9_timesStanding 38 = .ok (.getfield 36, 3) := by decide +kernel
theorem dX9_timesStanding_41 : decode cX9_timesStanding 41 = .ok (.iload_n 2, 1) := by decide +kernel
theorem dX9_timesStanding_42 : decode cX9_timesStanding 42 = .ok (.invokevirtual 198, 3) := by decide +kernel
theorem dX9_timesStanding_45 : decode cX9_timesStanding 45 = .ok (.baload, 1) := by decide +kernel
theorem dX9_timesStanding_46 : decode cX9_timesStanding 46 = .ok (.invokestatic 106, 3) := by decide +kernel
theorem dX9_timesStanding_49 : decode cX9_timesStanding 49 = .ok (.iadd, 1) := by decide +kernel
theorem dX9_timesStanding_50 : decode cX9_timesStanding 50 = .ok (.istore_n 1, 1) := by decide +kernel
theorem dX9_timesStanding_51 : decode cX9_timesStanding 51 = .ok (.iinc 2 1, 3) := by decide +kernel
theorem dX9_timesStanding_54 : decode cX9_timesStanding 54 = .ok (.goto (-36), 3) := by decide +kernel
theorem dX9_timesStanding_57 : decode cX9_timesStanding 57 = .ok (.iload_n 1, 1) := by decide +kernel
theorem dX9_timesStanding_58 : decode cX9_timesStanding 58 = .ok (.ireturn, 1) := by decide +kernel
theorem dX9_oneIf_0 : decode cX9_oneIf 0 = .ok (.iload_n 0, 1) := by decide +kernel
theorem dX9_oneIf_1 : decode cX9_oneIf 1 = .ok (.ifCond .eq 7, 3) := by decide +kernel
theorem dX9_oneIf_4 : decode cX9_oneIf 4 = .ok (.iconst 1, 1) := by decide +kernel
theorem dX9_oneIf_5 : decode cX9_oneIf 5 = .ok (.goto 4, 3) := by decide +kernel
theorem dX9_oneIf_8 : decode cX9_oneIf 8 = .ok (.iconst 0, 1) := by decide +kernel
theorem dX9_oneIf_9 : decode cX9_oneIf 9 = .ok (.ireturn, 1) := by decide +kernel
theorem dX9_isIn_0 : decode cX9_isIn 0 = .ok (.iload_n 0, 1) := by decide +kernel
theorem dX9_isIn_1 : decode cX9_isIn 1 = .ok (.iload_n 1, 1) := by decide +kernel
theorem dX9_isIn_2 : decode cX9_isIn 2 = .ok (.ishr, 1) := by decide +kernel
theorem dX9_isIn_3 : decode cX9_isIn 3 = .ok (.iconst 1, 1) := by decide +kernel
theorem dX9_isIn_4 : decode cX9_isIn 4 = .ok (.iand, 1) := by decide +kernel
theorem dX9_isIn_5 : decode cX9_isIn 5 = .ok (.ifCond .eq 7, 3) := by decide +kernel
theorem dX9_isIn_8 : decode cX9_isIn 8 = .ok (.iconst 1, 1) := by decide +kernel
theorem dX9_isIn_9 : decode cX9_isIn 9 = .ok (.goto 4, 3) := by decide +kernel
theorem dX9_isIn_12 : decode cX9_isIn 12 = .ok (.iconst 0, 1) := by decide +kernel
theorem dX9_isIn_13 : decode cX9_isIn 13 = .ok (.ireturn, 1) := by decide +kernel
theorem dX9_asLane_0 : decode cX9_asLane 0 = .ok (.iload_n 0, 1) := by decide +kernel
theorem dX9_asLane_1 : decode cX9_asLane 1 = .ok (.tableswitch 56 0 4 #[35, 40, 45, 50, 54], 35) := by decide +kernel
theorem dX9_asLane_36 : decode cX9_asLane 36 = .ok (.lload_n 1, 1) := by decide +kernel
theorem dX9_asLane_37 : decode cX9_asLane 37 = .ok (.l2i, 1) := by decide +kernel
theorem dX9_asLane_38 : decode cX9_asLane 38 = .ok (.i2b, 1) := by decide +kernel
theorem dX9_asLane_39 : decode cX9_asLane 39 = .ok (.i2l, 1) := by decide +kernel
theorem dX9_asLane_40 : decode cX9_asLane 40 = .ok (.lreturn, 1) := by decide +kernel
theorem dX9_asLane_41 : decode cX9_asLane 41 = .ok (.lload_n 1, 1) := by decide +kernel
theorem dX9_asLane_42 : decode cX9_asLane 42 = .ok (.l2i, 1) := by decide +kernel
theorem dX9_asLane_43 : decode cX9_asLane 43 = .ok (.i2s, 1) := by decide +kernel
theorem dX9_asLane_44 : decode cX9_asLane 44 = .ok (.i2l, 1) := by decide +kernel
theorem dX9_asLane_45 : decode cX9_asLane 45 = .ok (.lreturn, 1) := by decide +kernel
theorem dX9_asLane_46 : decode cX9_asLane 46 = .ok (.lload_n 1, 1) := by decide +kernel
theorem dX9_asLane_47 : decode cX9_asLane 47 = .ok (.l2i, 1) := by decide +kernel
theorem dX9_asLane_48 : decode cX9_asLane 48 = .ok (.i2c, 1) := by decide +kernel
theorem dX9_asLane_49 : decode cX9_asLane 49 = .ok (.i2l, 1) := by decide +kernel
theorem dX9_asLane_50 : decode cX9_asLane 50 = .ok (.lreturn, 1) := by decide +kernel
theorem dX9_asLane_51 : decode cX9_asLane 51 = .ok (.lload_n 1, 1) := by decide +kernel
theorem dX9_asLane_52 : decode cX9_asLane 52 = .ok (.l2i, 1) := by decide +kernel
theorem dX9_asLane_53 : decode cX9_asLane 53 = .ok (.i2l, 1) := by decide +kernel
theorem dX9_asLane_54 : decode cX9_asLane 54 = .ok (.lreturn, 1) := by decide +kernel
theorem dX9_asLane_55 : decode cX9_asLane 55 = .ok (.lload_n 1, 1) := by decide +kernel
theorem dX9_asLane_56 : decode cX9_asLane 56 = .ok (.lreturn, 1) := by decide +kernel
theorem dX9_asLane_57 : decode cX9_asLane 57 = .ok (.lload_n 1, 1) := by decide +kernel
theorem dX9_asLane_58 : decode cX9_asLane 58 = .ok (.l2d, 1) := by decide +kernel
theorem dX9_asLane_59 : decode cX9_asLane 59 = .ok (.d2l, 1) := by decide +kernel
theorem dX9_asLane_60 : decode cX9_asLane 60 = .ok (.lreturn, 1) := by decide +kernel
theorem dX9_markWholes_0 : decode cX9_markWholes 0 = .ok (.iconst 1, 1) := by decide +kernel
theorem dX9_markWholes_1 : decode cX9_markWholes 1 = .ok (.iload_n 1, 1) := by decide +kernel
theorem dX9_markWholes_2 : decode cX9_markWholes 2 = .ok (.ishl, 1) := by decide +kernel
theorem dX9_markWholes_3 : decode cX9_markWholes 3 = .ok (.istore_n 2, 1) := by decide +kernel
theorem dX9_markWholes_4 : decode cX9_markWholes 4 = .ok (.iconst 0, 1) := by decide +kernel
theorem dX9_markWholes_5 : decode cX9_markWholes 5 = .ok (.istore_n 3, 1) := by decide +kernel
theorem dX9_markWholes_6 : decode cX9_markWholes 6 = .ok (.iload_n 3, 1) := by decide +kernel
theorem dX9_markWholes_7 : decode cX9_markWholes 7 = .ok (.iload_n 1, 1) := by decide +kernel
theorem dX9_markWholes_8 : decode cX9_markWholes 8 = .ok (.if_icmp .ge 40, 3) := by decide +kernel
theorem dX9_markWholes_11 : decode cX9_markWholes 11 = .ok (.iconst 0, 1) := by decide +kernel
theorem dX9_markWholes_12 : decode cX9_markWholes 12 = .ok (.istore 4, 2) := by decide +kernel
theorem dX9_markWholes_14 : decode cX9_markWholes 14 = .ok (.iload 4, 2) := by decide +kernel
theorem dX9_markWholes_16 : decode cX9_markWholes 16 = .ok (.iload_n 2, 1) := by decide +kernel
theorem dX9_markWholes_17 : decode cX9_markWholes 17 = .ok (.if_icmp .ge 25, 3) := by decide +kernel
theorem dX9_markWholes_20 : decode cX9_markWholes 20 = .ok (.aload_n 0, 1) := by decide +kernel
theorem dX9_markWholes_21 : decode cX9_markWholes 21 = .ok (.iload 4, 2) := by decide +kernel
theorem dX9_markWholes_23 : decode cX9_markWholes 23 = .ok (.baload, 1) := by decide +kernel
theorem dX9_markWholes_24 : decode cX9_markWholes 24 = .ok (.ifCond .eq 12, 3) := by decide +kernel
theorem dX9_markWholes_27 : decode cX9_markWholes 27 = .ok (.aload_n 0, 1) := by decide +kernel
theorem dX9_markWholes_28 : decode cX9_markWholes 28 = .ok (.iload 4, 2) := by decide +kernel
theorem dX9_markWholes_30 : decode cX9_markWholes 30 = .ok (.iconst 1, 1) := by decide +kernel
theorem dX9_markWholes_31 : decode cX9_markWholes 31 = .ok (.iload_n 3, 1) := by decide +kernel
theorem dX9_markWholes_32 : decode cX9_markWholes 32 = .ok (.ishl, 1) := by decide +kernel
theorem dX9_markWholes_33 : decode cX9_markWholes 33 = .ok (.ior, 1) := by decide +kernel
theorem dX9_markWholes_34 : decode cX9_markWholes 34 = .ok (.iconst 1, 1) := by decide +kernel
theorem dX9_markWholes_35 : decode cX9_markWholes 35 = .ok (.bastore, 1) := by decide +kernel
theorem dX9_markWholes_36 : decode cX9_markWholes 36 = .ok (.iinc 4 1, 3) := by decide +kernel
theorem dX9_markWholes_39 : decode cX9_markWholes 39 = .ok (.goto (-25), 3) := by decide +kernel
theorem dX9_markWholes_42 : decode cX9_markWholes 42 = .ok (.iinc 3 1, 3) := by decide +kernel
theorem dX9_markWholes_45 : decode cX9_markWholes 45 = .ok (.goto (-39), 3) := by decide +kernel
theorem dX9_markWholes_48 : decode cX9_markWholes 48 = .ok (.return_, 1) := by decide +kernel
theorem dX9_unmark_0 : decode cX9_unmark 0 = .ok (.iconst 1, 1) := by decide +kernel
theorem dX9_unmark_1 : decode cX9_unmark 1 = .ok (.iload_n 1, 1) := by decide +kernel
theorem dX9_unmark_2 : decode cX9_unmark 2 = .ok (.ishl, 1) := by decide +kernel
theorem dX9_unmark_3 : decode cX9_unmark 3 = .ok (.istore_n 2, 1) := by decide +kernel
theorem dX9_unmark_4 : decode cX9_unmark 4 = .ok (.iconst 0, 1) := by decide +kernel
theorem dX9_unmark_5 : decode cX9_unmark 5 = .ok (.istore_n 3, 1) := by decide +kernel
theorem dX9_unmark_6 : decode cX9_unmark 6 = .ok (.iload_n 3, 1) := by decide +kernel
theorem dX9_unmark_7 : decode cX9_unmark 7 = .ok (.iload_n 2, 1) := by decide +kernel
theorem dX9_unmark_8 : decode cX9_unmark 8 = .ok (.if_icmp .ge 13, 3) := by decide +kernel
theorem dX9_unmark_11 : decode cX9_unmark 11 = .ok (.aload_n 0, 1) := by decide +kernel
theorem dX9_unmark_12 : decode cX9_unmark 12 = .ok (.iload_n 3, 1) := by decide +kernel
theorem dX9_unmark_13 : decode cX9_unmark 13 = .ok (.iconst 0, 1) := by decide +kernel
theorem dX9_unmark_14 : decode cX9_unmark 14 = .ok (.bastore, 1) := by decide +kernel
theorem dX9_unmark_15 : decode cX9_unmark 15 = .ok (.iinc 3 1, 3) := by decide +kernel
theorem dX9_unmark_18 : decode cX9_unmark 18 = .ok (.goto (-12), 3) := by decide +kernel
theorem dX9_unmark_21 : decode cX9_unmark 21 = .ok (.return_, 1) := by decide +kernel
theorem dJ6_bitCount_0f7a4_0 : decode cJ6_bitCount_0f7a4 0 = .ok (.iload_n 0, 1) := by decide +kernel
theorem dJ6_bitCount_0f7a4_1 : decode cJ6_bitCount_0f7a4 1 = .ok (.iload_n 0, 1) := by decide +kernel
theorem dJ6_bitCount_0f7a4_2 : decode cJ6_bitCount_0f7a4 2 = .ok (.iconst 1, 1) := by decide +kernel
theorem dJ6_bitCount_0f7a4_3 : decode cJ6_bitCount_0f7a4 3 = .ok (.iushr, 1) := by decide +kernel
theorem dJ6_bitCount_0f7a4_4 : decode cJ6_bitCount_0f7a4 4 = .ok (.ldc_w 265, 3) := by decide +kernel
theorem dJ6_bitCount_0f7a4_7 : decode cJ6_bitCount_0f7a4 7 = .ok (.iand, 1) := by decide +kernel
theorem dJ6_bitCount_0f7a4_8 : decode cJ6_bitCount_0f7a4 8 = .ok (.isub, 1) := by decide +kernel
theorem dJ6_bitCount_0f7a4_9 : decode cJ6_bitCount_0f7a4 9 = .ok (.istore_n 0, 1) := by decide +kernel
theorem dJ6_bitCount_0f7a4_10 : decode cJ6_bitCount_0f7a4 10 = .ok (.iload_n 0, 1) := by decide +kernel
theorem dJ6_bitCount_0f7a4_11 : decode cJ6_bitCount_0f7a4 11 = .ok (.ldc_w 266, 3) := by decide +kernel
theorem dJ6_bitCount_0f7a4_14 : decode cJ6_bitCount_0f7a4 14 = .ok (.iand, 1) := by decide +kernel
theorem dJ6_bitCount_0f7a4_15 : decode cJ6_bitCount_0f7a4 15 = .ok (.iload_n 0, 1) := by decide +kernel
theorem dJ6_bitCount_0f7a4_16 : decode cJ6_bitCount_0f7a4 16 = .ok (.iconst 2, 1) := by decide +kernel
theorem dJ6_bitCount_0f7a4_17 : decode cJ6_bitCount_0f7a4 17 = .ok (.iushr, 1) := by decide +kernel
theorem dJ6_bitCount_0f7a4_18 : decode cJ6_bitCount_0f7a4 18 = .ok (.ldc_w 266, 3) := by decide +kernel
theorem dJ6_bitCount_0f7a4_21 : decode cJ6_bitCount_0f7a4 21 = .ok (.iand, 1) := by decide +kernel
theorem dJ6_bitCount_0f7a4_22 : decode cJ6_bitCount_0f7a4 22 = .ok (.iadd, 1) := by decide +kernel
theorem dJ6_bitCount_0f7a4_23 : decode cJ6_bitCount_0f7a4 23 = .ok (.istore_n 0, 1) := by decide +kernel
theorem dJ6_bitCount_0f7a4_24 : decode cJ6_bitCount_0f7a4 24 = .ok (.iload_n 0, 1) := by decide +kernel
theorem dJ6_bitCount_0f7a4_25 : decode cJ6_bitCount_0f7a4 25 = .ok (.iload_n 0, 1) := by decide +kernel
theorem dJ6_bitCount_0f7a4_26 : decode cJ6_bitCount_0f7a4 26 = .ok (.iconst 4, 1) := by decide +kernel
theorem dJ6_bitCount_0f7a4_27 : decode cJ6_bitCount_0f7a4 27 = .ok (.iushr, 1) := by decide +kernel
theorem dJ6_bitCount_0f7a4_28 : decode cJ6_bitCount_0f7a4 28 = .ok (.iadd, 1) := by decide +kernel
theorem dJ6_bitCount_0f7a4_29 : decode cJ6_bitCount_0f7a4 29 = .ok (.ldc_w 267, 3) := by decide +kernel
theorem dJ6_bitCount_0f7a4_32 : decode cJ6_bitCount_0f7a4 32 = .ok (.iand, 1) := by decide +kernel
theorem dJ6_bitCount_0f7a4_33 : decode cJ6_bitCount_0f7a4 33 = .ok (.istore_n 0, 1) := by decide +kernel
theorem dJ6_bitCount_0f7a4_34 : decode cJ6_bitCount_0f7a4 34 = .ok (.iload_n 0, 1) := by decide +kernel
theorem dJ6_bitCount_0f7a4_35 : decode cJ6_bitCount_0f7a4 35 = .ok (.iload_n 0, 1) := by decide +kernel
theorem dJ6_bitCount_0f7a4_36 : decode cJ6_bitCount_0f7a4 36 = .ok (.bipush 8, 2) := by decide +kernel
theorem dJ6_bitCount_0f7a4_38 : decode cJ6_bitCount_0f7a4 38 = .ok (.iushr, 1) := by decide +kernel
theorem dJ6_bitCount_0f7a4_39 : decode cJ6_bitCount_0f7a4 39 = .ok (.iadd, 1) := by decide +kernel
theorem dJ6_bitCount_0f7a4_40 : decode cJ6_bitCount_0f7a4 40 = .ok (.istore_n 0, 1) := by decide +kernel
theorem dJ6_bitCount_0f7a4_41 : decode cJ6_bitCount_0f7a4 41 = .ok (.iload_n 0, 1) := by decide +kernel
theorem dJ6_bitCount_0f7a4_42 : decode cJ6_bitCount_0f7a4 42 = .ok (.iload_n 0, 1) := by decide +kernel
theorem dJ6_bitCount_0f7a4_43 : decode cJ6_bitCount_0f7a4 43 = .ok (.bipush 16, 2) := by decide +kernel
theorem dJ6_bitCount_0f7a4_45 : decode cJ6_bitCount_0f7a4 45 = .ok (.iushr, 1) := by decide +kernel
theorem dJ6_bitCount_0f7a4_46 : decode cJ6_bitCount_0f7a4 46 = .ok (.iadd, 1) := by decide +kernel
theorem dJ6_bitCount_0f7a4_47 : decode cJ6_bitCount_0f7a4 47 = .ok (.istore_n 0, 1) := by decide +kernel
theorem dJ6_bitCount_0f7a4_48 : decode cJ6_bitCount_0f7a4 48 = .ok (.iload_n 0, 1) := by decide +kernel
theorem dJ6_bitCount_0f7a4_49 : decode cJ6_bitCount_0f7a4 49 = .ok (.bipush 63, 2) := by decide +kernel
theorem dJ6_bitCount_0f7a4_51 : decode cJ6_bitCount_0f7a4 51 = .ok (.iand, 1) := by decide +kernel
theorem dJ6_bitCount_0f7a4_52 : decode cJ6_bitCount_0f7a4 52 = .ok (.ireturn, 1) := by decide +kernel
end
section
-- names, fields, the words of the tables by their places: by program (wip/whole/gen01.py) out of the claim's printed texts
theorem dX10_init_0 : decode cX10_init 0 = .ok (.aload_n 0, 1) := by decide +kernel
theorem dX10_init_1 : decode cX10_init 1 = .ok (.invokespecial 1, 3) := by decide +kernel
theorem dX10_init_4 : decode cX10_init 4 = .ok (.aload_n 0, 1) := by decide +kernel
theorem dX10_init_5 : decode cX10_init 5 = .ok (.iconst 4, 1) := by decide +kernel
theorem dX10_init_6 : decode cX10_init 6 = .ok (.newarray .int, 2) := by decide +kernel
theorem dX10_init_8 : decode cX10_init 8 = .ok (.putfield 7, 3) := by decide +kernel
theorem dX10_init_11 : decode cX10_init 11 = .ok (.aload_n 0, 1) := by decide +kernel
theorem dX10_init_12 : decode cX10_init 12 = .ok (.bipush 24, 2) := by decide +kernel
theorem dX10_init_14 : decode cX10_init 14 = .ok (.newarray .int, 2) := by decide +kernel
theorem dX10_init_16 : decode cX10_init 16 = .ok (.putfield 13, 3) := by decide +kernel
theorem dX10_init_19 : decode cX10_init 19 = .ok (.aload_n 0, 1) := by decide +kernel
theorem dX10_init_20 : decode cX10_init 20 = .ok (.bipush 12, 2) := by decide +kernel
theorem dX10_init_22 : decode cX10_init 22 = .ok (.newarray .int, 2) := by decide +kernel
theorem dX10_init_24 : decode cX10_init 24 = .ok (.putfield 16, 3) := by decide +kernel
theorem dX10_init_27 : decode cX10_init 27 = .ok (.aload_n 0, 1) := by decide +kernel
theorem dX10_init_28 : decode cX10_init 28 = .ok (.bipush 12, 2) := by decide +kernel
theorem dX10_init_30 : decode cX10_init 30 = .ok (.newarray .int, 2) := by decide +kernel
theorem dX10_init_32 : decode cX10_init 32 = .ok (.putfield 19, 3) := by decide +kernel
theorem dX10_init_35 : decode cX10_init 35 = .ok (.aload_n 0, 1) := by decide +kernel
theorem dX10_init_36 : decode cX10_init 36 = .ok (.bipush 12, 2) := by decide +kernel
theorem dX10_init_38 : decode cX10_init 38 = .ok (.newarray .boolean, 2) := by decide +kernel
theorem dX10_init_40 : decode cX10_init 40 = .ok (.putfield 22, 3) := by decide +kernel
theorem dX10_init_43 : decode cX10_init 43 = .ok (.aload_n 0, 1) := by decide +kernel
theorem dX10_init_44 : decode cX10_init 44 = .ok (.bipush 72, 2) := by decide +kernel
theorem dX10_init_46 : decode cX10_init 46 = .ok (.newarray .boolean, 2) := by decide +kernel
theorem dX10_init_48 : decode cX10_init 48 = .ok (.putfield 26, 3) := by decide +kernel
theorem dX10_init_51 : decode cX10_init 51 = .ok (.aload_n 0, 1) := by decide +kernel
theorem dX10_init_52 : decode cX10_init 52 = .ok (.bipush 72, 2) := by decide +kernel
theorem dX10_init_54 : decode cX10_init 54 = .ok (.newarray .long, 2) := by decide +kernel
theorem dX10_init_56 : decode cX10_init 56 = .ok (.putfield 29, 3) := by decide +kernel
theorem dX10_init_59 : decode cX10_init 59 = .ok (.aload_n 0, 1) := by decide +kernel
theorem dX10_init_60 : decode cX10_init 60 = .ok (.bipush 10, 2) := by decide +kernel
theorem dX10_init_62 : decode cX10_init 62 = .ok (.newarray .int, 2) := by decide +kernel
theorem dX10_init_64 : decode cX10_init 64 = .ok (.putfield 33, 3) := by decide +kernel
theorem dX10_init_67 : decode cX10_init 67 = .ok (.aload_n 0, 1) := by decide +kernel
theorem dX10_init_68 : decode cX10_init 68 = .ok (.bipush 10, 2) := by decide +kernel
theorem dX10_init_70 : decode cX10_init 70 = .ok (.newarray .int, 2) := by decide +kernel
theorem dX10_init_72 : decode cX10_init 72 = .ok (.putfield 36, 3) := by decide +kernel
theorem dX10_init_75 : decode cX10_init 75 = .ok (.aload_n 0, 1) := by decide +kernel
theorem dX10_init_76 : decode cX10_init 76 = .ok (.bipush 10, 2) := by decide +kernel
theorem dX10_init_78 : decode cX10_init 78 = .ok (.newarray .int, 2) := by decide +kernel
theorem dX10_init_80 : decode cX10_init 80 = .ok (.putfield 39, 3) := by decide +kernel
theorem dX10_init_83 : decode cX10_init 83 = .ok (.aload_n 0, 1) := by decide +kernel
theorem dX10_init_84 : decode cX10_init 84 = .ok (.bipush 10, 2) := by decide +kernel
theorem dX10_init_86 : decode cX10_init 86 = .ok (.newarray .int, 2) := by decide +kernel
theorem dX10_init_88 : decode cX10_init 88 = .ok (.putfield 42, 3) := by decide +kernel
theorem dX10_init_91 : decode cX10_init 91 = .ok (.aload_n 0, 1) := by decide +kernel
theorem dX10_init_92 : decode cX10_init 92 = .ok (.bipush 10, 2) := by decide +kernel
theorem dX10_init_94 : decode cX10_init 94 = .ok (.newarray .int, 2) := by decide +kernel
theorem dX10_init_96 : decode cX10_init 96 = .ok (.putfield 45, 3) := by decide +kernel
theorem dX10_init_99 : decode cX10_init 99 = .ok (.aload_n 0, 1) := by decide +kernel
theorem dX10_init_100 : decode cX10_init 100 = .ok (.bipush 10, 2) := by decide +kernel
theorem dX10_init_102 : decode cX10_init 102 = .ok (.newarray .long, 2) := by decide +kernel
theorem dX10_init_104 : decode cX10_init 104 = .ok (.putfield 48, 3) := by decide +kernel
theorem dX10_init_107 : decode cX10_init 107 = .ok (.aload_n 0, 1) := by decide +kernel
theorem dX10_init_108 : decode cX10_init 108 = .ok (.bipush 10, 2) := by decide +kernel
theorem dX10_init_110 : decode cX10_init 110 = .ok (.newarray .long, 2) := by decide +kernel
theorem dX10_init_112 : decode cX10_init 112 = .ok (.putfield 51, 3) := by decide +kernel
theorem dX10_init_115 : decode cX10_init 115 = .ok (.aload_n 0, 1) := by decide +kernel
theorem dX10_init_116 : decode cX10_init 116 = .ok (.bipush 10, 2) := by decide +kernel
theorem dX10_init_118 : decode cX10_init 118 = .ok (.newarray .boolean, 2) := by decide +kernel
theorem dX10_init_120 : decode cX10_init 120 = .ok (.putfield 54, 3) := by decide +kernel
theorem dX10_init_123 : decode cX10_init 123 = .ok (.aload_n 0, 1) := by decide +kernel
theorem dX10_init_124 : decode cX10_init 124 = .ok (.iconst 3, 1) := by decide +kernel
theorem dX10_init_125 : decode cX10_init 125 = .ok (.newarray .int, 2) := by decide +kernel
theorem dX10_init_127 : decode cX10_init 127 = .ok (.putfield 57, 3) := by decide +kernel
theorem dX10_init_130 : decode cX10_init 130 = .ok (.aload_n 0, 1) := by decide +kernel
theorem dX10_init_131 : decode cX10_init 131 = .ok (.bipush 18, 2) := by decide +kernel
theorem dX10_init_133 : decode cX10_init 133 = .ok (.newarray .boolean, 2) := by decide +kernel
theorem dX10_init_135 : decode cX10_init 135 = .ok (.putfield 60, 3) := by decide +kernel
theorem dX10_init_138 : decode cX10_init 138 = .ok (.aload_n 0, 1) := by decide +kernel
theorem dX10_init_139 : decode cX10_init 139 = .ok (.bipush 18, 2) := by decide +kernel
theorem dX10_init_141 : decode cX10_init 141 = .ok (.newarray .long, 2) := by decide +kernel
theorem dX10_init_143 : decode cX10_init 143 = .ok (.putfield 63, 3) := by decide +kernel
theorem dX10_init_146 : decode cX10_init 146 = .ok (.aload_n 0, 1) := by decide +kernel
theorem dX10_init_147 : decode cX10_init 147 = .ok (.bipush 6, 2) := by decide +kernel
theorem dX10_init_149 : decode cX10_init 149 = .ok (.newarray .int, 2) := by decide +kernel
theorem dX10_init_151 : decode cX10_init 151 = .ok (.putfield 66, 3) := by decide +kernel
theorem dX10_init_154 : decode cX10_init 154 = .ok (.aload_n 0, 1) := by decide +kernel
theorem dX10_init_155 : decode cX10_init 155 = .ok (.bipush 6, 2) := by decide +kernel
theorem dX10_init_157 : decode cX10_init 157 = .ok (.newarray .int, 2) := by decide +kernel
theorem dX10_init_159 : decode cX10_init 159 = .ok (.putfield 69, 3) := by decide +kernel
theorem dX10_init_162 : decode cX10_init 162 = .ok (.aload_n 0, 1) := by decide +kernel
theorem dX10_init_163 : decode cX10_init 163 = .ok (.bipush 6, 2) := by decide +kernel
theorem dX10_init_165 : decode cX10_init 165 = .ok (.newarray .int, 2) := by decide +kernel
theorem dX10_init_167 : decode cX10_init 167 = .ok (.putfield 72, 3) := by decide +kernel
theorem dX10_init_170 : decode cX10_init 170 = .ok (.aload_n 0, 1) := by decide +kernel
theorem dX10_init_171 : decode cX10_init 171 = .ok (.bipush 6, 2) := by decide +kernel
theorem dX10_init_173 : decode cX10_init 173 = .ok (.newarray .int, 2) := by decide +kernel
theorem dX10_init_175 : decode cX10_init 175 = .ok (.putfield 75, 3) := by decide +kernel
theorem dX10_init_178 : decode cX10_init 178 = .ok (.aload_n 0, 1) := by decide +kernel
theorem dX10_init_179 : decode cX10_init 179 = .ok (.sipush 4096, 3) := by decide +kernel
theorem dX10_init_182 : decode cX10_init 182 = .ok (.newarray .int, 2) := by decide +kernel
theorem dX10_init_184 : decode cX10_init 184 = .ok (.putfield 78, 3) := by decide +kernel
theorem dX10_init_187 : decode cX10_init 187 = .ok (.aload_n 0, 1) := by decide +kernel
theorem dX10_init_188 : decode cX10_init 188 = .ok (.sipush 4096, 3) := by decide +kernel
theorem dX10_init_191 : decode cX10_init 191 = .ok (.newarray .boolean, 2) := by decide +kernel
theorem dX10_init_193 : decode cX10_init 193 = .ok (.putfield 81, 3) := by decide +kernel
theorem dX10_init_196 : decode cX10_init 196 = .ok (.aload_n 0, 1) := by decide +kernel
theorem dX10_init_197 : decode cX10_init 197 = .ok (.sipush 4096, 3) := by decide +kernel
theorem dX10_init_200 : decode cX10_init 200 = .ok (.newarray .int, 2) := by decide +kernel
theorem dX10_init_202 : decode cX10_init 202 = .ok (.putfield 84, 3) := by decide +kernel
theorem dX10_init_205 : decode cX10_init 205 = .ok (.aload_n 0, 1) := by decide +kernel
theorem dX10_init_206 : decode cX10_init 206 = .ok (.bipush 12, 2) := by decide +kernel
theorem dX10_init_208 : decode cX10_init 208 = .ok (.newarray .long, 2) := by decide +kernel
theorem dX10_init_210 : decode cX10_init 210 = .ok (.putfield 87, 3) := by decide +kernel
theorem dX10_init_213 : decode cX10_init 213 = .ok (.aload_n 0, 1) := by decide +kernel
theorem dX10_init_214 : decode cX10_init 214 = .ok (.iconst 3, 1) := by decide +kernel
theorem dX10_init_215 : decode cX10_init 215 = .ok (.newarray .int, 2) := by decide +kernel
theorem dX10_init_217 : decode cX10_init 217 = .ok (.putfield 90, 3) := by decide +kernel
theorem dX10_init_220 : decode cX10_init 220 = .ok (.return_, 1) := by decide +kernel
theorem dX10_in_0 : decode cX10_in 0 = .ok (.lload_n 0, 1) := by decide +kernel
theorem dX10_in_1 : decode cX10_in 1 = .ok (.lload_n 2, 1) := by decide +kernel
theorem dX10_in_2 : decode cX10_in 2 = .ok (.lcmp, 1) := by decide +kernel
theorem dX10_in_3 : decode cX10_in 3 = .ok (.ifCond .lt 14, 3) := by decide +kernel
theorem dX10_in_6 : decode cX10_in 6 = .ok (.lload_n 0, 1) := by decide +kernel
theorem dX10_in_7 : decode cX10_in 7 = .ok (.lload 4, 2) := by decide +kernel
theorem dX10_in_9 : decode cX10_in 9 = .ok (.lcmp, 1) := by decide +kernel
theorem dX10_in_10 : decode cX10_in 10 = .ok (.ifCond .gt 7, 3) := by decide +kernel
theorem dX10_in_13 : decode cX10_in 13 = .ok (.iconst 1, 1) := by decide +kernel
theorem dX10_in_14 : decode cX10_in 14 = .ok (.goto 4, 3) := by decide +kernel
theorem dX10_in_17 : decode cX10_in 17 = .ok (.iconst 0, 1) := by decide +kernel
theorem dX10_in_18 : decode cX10_in 18 = .ok (.ireturn, 1) := by decide +kernel
theorem dX10_finds_0 : decode cX10_finds 0 = .ok (.aload_n 0, 1) := by decide +kernel
theorem dX10_finds_1 : decode cX10_finds 1 = .ok (.dup, 1) := by decide +kernel
theorem dX10_finds_2 : decode cX10_finds 2 = .ok (.getfield 97, 3) := by decide +kernel
theorem dX10_finds_5 : decode cX10_finds 5 = .ok (.iconst 1, 1) := by decide +kernel
theorem dX10_finds_6 : decode cX10_finds 6 = .ok (.iadd, 1) := by decide +kernel
theorem dX10_finds_7 : decode cX10_finds 7 = .ok (.putfield 97, 3) := by decide +kernel
theorem dX10_finds_10 : decode cX10_finds 10 = .ok (.iload_n 1, 1) := by decide +kernel
theorem dX10_finds_11 : decode cX10_finds 11 = .ok (.ireturn, 1) := by decide +kernel
theorem dX10_lack_0 : decode cX10_lack 0 = .ok (.iload_n 1, 1) := by decide +kernel
theorem dX10_lack_1 : decode cX10_lack 1 = .ok (.i2l, 1) := by decide +kernel
theorem dX10_lack_2 : decode cX10_lack 2 = .ok (.lconst 0, 1) := by decide +kernel
theorem dX10_lack_3 : decode cX10_lack 3 = .ok (.ldc2_w 100, 3) := by decide +kernel
theorem dX10_lack_6 : decode cX10_lack 6 = .ok (.invokestatic 102, 3) := by decide +kernel
theorem dX10_lack_9 : decode cX10_lack 9 = .ok (.ifCond .ne 8, 3) := by decide +kernel
theorem dX10_lack_12 : decode cX10_lack 12 = .ok (.bipush (-12), 2) := by decide +kernel
theorem dX10_lack_14 : decode cX10_lack 14 = .ok (.goto 18, 3) := by decide +kernel
theorem dX10_lack_17 : decode cX10_lack 17 = .ok (.aload_n 0, 1) := by decide +kernel
theorem dX10_lack_18 : decode cX10_lack 18 = .ok (.getfield 7, 3) := by decide +kernel
theorem dX10_lack_21 : decode cX10_lack 21 = .ok (.iload_n 1, 1) := by decide +kernel
theorem dX10_lack_22 : decode cX10_lack 22 = .ok (.iaload, 1) := by decide +kernel
theorem dX10_lack_23 : decode cX10_lack 23 = .ok (.ifCond .ne 8, 3) := by decide +kernel
theorem dX10_lack_26 : decode cX10_lack 26 = .ok (.bipush (-11), 2) := by decide +kernel
theorem dX10_lack_28 : decode cX10_lack 28 = .ok (.goto 4, 3) := by decide +kernel
theorem dX10_lack_31 : decode cX10_lack 31 = .ok (.iconst 0, 1) := by decide +kernel
theorem dX10_lack_32 : decode cX10_lack 32 = .ok (.ireturn, 1) := by decide +kernel
theorem dX10_noRow_0 : decode cX10_noRow 0 = .ok (.iload_n 1, 1) := by decide +kernel
theorem dX10_noRow_1 : decode cX10_noRow 1 = .ok (.i2l, 1) := by decide +kernel
theorem dX10_noRow_2 : decode cX10_noRow 2 = .ok (.lconst 0, 1) := by decide +kernel
theorem dX10_noRow_3 : decode cX10_noRow 3 = .ok (.aload_n 0, 1) := by decide +kernel
theorem dX10_noRow_4 : decode cX10_noRow 4 = .ok (.getfield 106, 3) := by decide +kernel
theorem dX10_noRow_7 : decode cX10_noRow 7 = .ok (.iconst 1, 1) := by decide +kernel
theorem dX10_noRow_8 : decode cX10_noRow 8 = .ok (.isub, 1) := by decide +kernel
theorem dX10_noRow_9 : decode cX10_noRow 9 = .ok (.i2l, 1) := by decide +kernel
theorem dX10_noRow_10 : decode cX10_noRow 10 = .ok (.invokestatic 102, 3) := by decide +kernel
theorem dX10_noRow_13 : decode cX10_noRow 13 = .ok (.ifCond .ne 7, 3) := by decide +kernel
theorem dX10_noRow_16 : decode cX10_noRow 16 = .ok (.iconst 1, 1) := by decide +kernel
theorem dX10_noRow_17 : decode cX10_noRow 17 = .ok (.goto 4, 3) := by decide +kernel
theorem dX10_noRow_20 : decode cX10_noRow 20 = .ok (.iconst 0, 1) := by decide +kernel
theorem dX10_noRow_21 : decode cX10_noRow 21 = .ok (.ireturn, 1) := by decide +kernel
theorem dX10_noLaw_0 : decode cX10_noLaw 0 = .ok (.iload_n 1, 1) := by decide +kernel
theorem dX10_noLaw_1 : decode cX10_noLaw 1 = .ok (.i2l, 1) := by decide +kernel
theorem dX10_noLaw_2 : decode cX10_noLaw 2 = .ok (.lconst 0, 1) := by decide +kernel
theorem dX10_noLaw_3 : decode cX10_noLaw 3 = .ok (.aload_n 0, 1) := by decide +kernel
theorem dX10_noLaw_4 : decode cX10_noLaw 4 = .ok (.getfield 109, 3) := by decide +kernel
theorem dX10_noLaw_7 : decode cX10_noLaw 7 = .ok (.iconst 1, 1) := by decide +kernel
theorem dX10_noLaw_8 : decode cX10_noLaw 8 = .ok (.isub, 1) := by decide +kernel
theorem dX10_noLaw_9 : decode cX10_noLaw 9 = .ok (.i2l, 1) := by decide +kernel
theorem dX10_noLaw_10 : decode cX10_noLaw 10 = .ok (.invokestatic 102, 3) := by decide +kernel
theorem dX10_noLaw_13 : decode cX10_noLaw 13 = .ok (.ifCond .ne 7, 3) := by decide +kernel
theorem dX10_noLaw_16 : decode cX10_noLaw 16 = .ok (.iconst 1, 1) := by decide +kernel
theorem dX10_noLaw_17 : decode cX10_noLaw 17 = .ok (.goto 4, 3) := by decide +kernel
theorem dX10_noLaw_20 : decode cX10_noLaw 20 = .ok (.iconst 0, 1) := by decide +kernel
theorem dX10_noLaw_21 : decode cX10_noLaw 21 = .ok (.ireturn, 1) := by decide +kernel
theorem dX10_noColumn_0 : decode cX10_noColumn 0 = .ok (.iload_n 2, 1) := by decide +kernel
theorem dX10_noColumn_1 : decode cX10_noColumn 1 = .ok (.i2l, 1) := by decide +kernel
theorem dX10_noColumn_2 : decode cX10_noColumn 2 = .ok (.lconst 0, 1) := by decide +kernel
theorem dX10_noColumn_3 : decode cX10_noColumn 3 = .ok (.aload_n 0, 1) := by decide +kernel
theorem dX10_noColumn_4 : decode cX10_noColumn 4 = .ok (.getfield 7, 3) := by decide +kernel
theorem dX10_noColumn_7 : decode cX10_noColumn 7 = .ok (.iload_n 1, 1) := by decide +kernel
theorem dX10_noColumn_8 : decode cX10_noColumn 8 = .ok (.iaload, 1) := by decide +kernel
theorem dX10_noColumn_9 : decode cX10_noColumn 9 = .ok (.iconst 1, 1) := by decide +kernel
theorem dX10_noColumn_10 : decode cX10_noColumn 10 = .ok (.isub, 1) := by decide +kernel
theorem dX10_noColumn_11 : decode cX10_noColumn 11 = .ok (.i2l, 1) := by decide +kernel
theorem dX10_noColumn_12 : decode cX10_noColumn 12 = .ok (.invokestatic 102, 3) := by decide +kernel
theorem dX10_noColumn_15 : decode cX10_noColumn 15 = .ok (.ifCond .ne 7, 3) := by decide +kernel
theorem dX10_noColumn_18 : decode cX10_noColumn 18 = .ok (.iconst 1, 1) := by decide +kernel
theorem dX10_noColumn_19 : decode cX10_noColumn 19 = .ok (.goto 4, 3) := by decide +kernel
theorem dX10_noColumn_22 : decode cX10_noColumn 22 = .ok (.iconst 0, 1) := by decide +kernel
theorem dX10_noColumn_23 : decode cX10_noColumn 23 = .ok (.ireturn, 1) := by decide +kernel
theorem dX10_table_0 : decode cX10_table 0 = .ok (.aload_n 0, 1) := by decide +kernel
theorem dX10_table_1 : decode cX10_table 1 = .ok (.iconst 0, 1) := by decide +kernel
theorem dX10_table_2 : decode cX10_table 2 = .ok (.putfield 93, 3) := by decide +kernel
theorem dX10_table_5 : decode cX10_table 5 = .ok (.iload_n 1, 1) := by decide +kernel
theorem dX10_table_6 : decode cX10_table 6 = .ok (.i2l, 1) := by decide +kernel
theorem dX10_table_7 : decode cX10_table 7 = .ok (.lconst 0, 1) := by decide +kernel
theorem dX10_table_8 : decode cX10_table 8 = .ok (.ldc2_w 100, 3) := by decide +kernel
theorem dX10_table_11 : decode cX10_table 11 = .ok (.invokestatic 102, 3) := by decide +kernel
theorem dX10_table_14 : decode cX10_table 14 = .ok (.ifCond .ne 10, 3) := by decide +kernel
theorem dX10_table_17 : decode cX10_table 17 = .ok (.aload_n 0, 1) := by decide +kernel
theorem dX10_table_18 : decode cX10_table 18 = .ok (.bipush (-12), 2) := by decide +kernel
theorem dX10_table_20 : decode cX10_table 20 = .ok (.invokevirtual 112, 3) := by decide +kernel
theorem dX10_table_23 : decode cX10_table 23 = .ok (.ireturn, 1) := by decide +kernel
theorem dX10_table_24 : decode cX10_table 24 = .ok (.iload_n 2, 1) := by decide +kernel
theorem dX10_table_25 : decode cX10_table 25 = .ok (.ifCond .ge 10, 3) := by decide +kernel
theorem dX10_table_28 : decode cX10_table 28 = .ok (.aload_n 0, 1) := by decide +kernel
theorem dX10_table_29 : decode cX10_table 29 = .ok (.bipush (-14), 2) := by decide +kernel
theorem dX10_table_31 : decode cX10_table 31 = .ok (.invokevirtual 112, 3) := by decide +kernel
theorem dX10_table_34 : decode cX10_table 34 = .ok (.ireturn, 1) := by decide +kernel
theorem dX10_table_35 : decode cX10_table 35 = .ok (.iload_n 2, 1) := by decide +kernel
theorem dX10_table_36 : decode cX10_table 36 = .ok (.ifCond .eq 13, 3) := by decide +kernel
theorem dX10_table_39 : decode cX10_table 39 = .ok (.iload_n 2, 1) := by decide +kernel
theorem dX10_table_40 : decode cX10_table 40 = .ok (.bipush 6, 2) := by decide +kernel
theorem dX10_table_42 : decode cX10_table 42 = .ok (.if_icmp .gt 7, 3) := by decide +kernel
theorem dX10_table_45 : decode cX10_table 45 = .ok (.iload_n 3, 1) := by decide +kernel
theorem dX10_table_46 : decode cX10_table 46 = .ok (.ifCond .ge 6, 3) := by decide +kernel
theorem dX10_table_49 : decode cX10_table 49 = .ok (.bipush (-2), 2) := by decide +kernel
theorem dX10_table_51 : decode cX10_table 51 = .ok (.ireturn, 1) := by decide +kernel
theorem dX10_table_52 : decode cX10_table 52 = .ok (.iload_n 3, 1) := by decide +kernel
theorem dX10_table_53 : decode cX10_table 53 = .ok (.istore 4, 2) := by decide +kernel
theorem dX10_table_55 : decode cX10_table 55 = .ok (.iconst 1, 1) := by decide +kernel
theorem dX10_table_56 : decode cX10_table 56 = .ok (.istore 5, 2) := by decide +kernel
theorem dX10_table_58 : decode cX10_table 58 = .ok (.iconst 0, 1) := by decide +kernel
theorem dX10_table_59 : decode cX10_table 59 = .ok (.istore 6, 2) := by decide +kernel
theorem dX10_table_61 : decode cX10_table 61 = .ok (.iload 6, 2) := by decide +kernel
theorem dX10_table_63 : decode cX10_table 63 = .ok (.iload_n 2, 1) := by decide +kernel
theorem dX10_table_64 : decode cX10_table 64 = .ok (.if_icmp .ge 38, 3) := by decide +kernel
theorem dX10_table_67 : decode cX10_table 67 = .ok (.iload 5, 2) := by decide +kernel
theorem dX10_table_69 : decode cX10_table 69 = .ok (.ifCond .eq 17, 3) := by decide +kernel
theorem dX10_table_72 : decode cX10_table 72 = .ok (.iload 4, 2) := by decide +kernel
theorem dX10_table_74 : decode cX10_table 74 = .ok (.bipush 10, 2) := by decide +kernel
theorem dX10_table_76 : decode cX10_table 76 = .ok (.irem, 1) := by decide +kernel
theorem dX10_table_77 : decode cX10_table 77 = .ok (.bipush 6, 2) := by decide +kernel
theorem dX10_table_79 : decode cX10_table 79 = .ok (.if_icmp .ge 7, 3) := by decide +kernel
theorem dX10_table_82 : decode cX10_table 82 = .ok (.iconst 1, 1) := by decide +kernel
theorem dX10_table_83 : decode cX10_table 83 = .ok (.goto 4, 3) := by decide +kernel
theorem dX10_table_86 : decode cX10_table 86 = .ok (.iconst 0, 1) := by decide +kernel
theorem dX10_table_87 : decode cX10_table 87 = .ok (.istore 5, 2) := by decide +kernel
theorem dX10_table_89 : decode cX10_table 89 = .ok (.iload 4, 2) := by decide +kernel
theorem dX10_table_91 : decode cX10_table 91 = .ok (.bipush 10, 2) := by decide +kernel
theorem dX10_table_93 : decode cX10_table 93 = .ok (.idiv, 1) := by decide +kernel
theorem dX10_table_94 : decode cX10_table 94 = .ok (.istore 4, 2) := by decide +kernel
theorem dX10_table_96 : decode cX10_table 96 = .ok (.iinc 6 1, 3) := by decide +kernel
theorem dX10_table_99 : decode cX10_table 99 = .ok (.goto (-38), 3) := by decide +kernel
theorem dX10_table_102 : decode cX10_table 102 = .ok (.iload 5, 2) := by decide +kernel
theorem dX10_table_104 : decode cX10_table 104 = .ok (.ifCond .eq 8, 3) := by decide +kernel
theorem dX10_table_107 : decode cX10_table 107 = .ok (.iload 4, 2) := by decide +kernel
theorem dX10_table_109 : decode cX10_table 109 = .ok (.ifCond .le 6, 3) := by decide +kernel
theorem dX10_table_112 : decode cX10_table 112 = .ok (.bipush (-2), 2) := by decide +kernel
theorem dX10_table_114 : decode cX10_table 114 = .ok (.ireturn, 1) := by decide +kernel
theorem dX10_table_115 : decode cX10_table 115 = .ok (.aload_n 0, 1) := by decide +kernel
theorem dX10_table_116 : decode cX10_table 116 = .ok (.getfield 7, 3) := by decide +kernel
theorem dX10_table_119 : decode cX10_table 119 = .ok (.iload_n 1, 1) := by decide +kernel
theorem dX10_table_120 : decode cX10_table 120 = .ok (.iaload, 1) := by decide +kernel
theorem dX10_table_121 : decode cX10_table 121 = .ok (.ifCond .le 6, 3) := by decide +kernel
theorem dX10_table_124 : decode cX10_table 124 = .ok (.bipush (-3), 2) := by decide +kernel
theorem dX10_table_126 : decode cX10_table 126 = .ok (.ireturn, 1) := by decide +kernel
theorem dX10_table_127 : decode cX10_table 127 = .ok (.aload_n 0, 1) := by decide +kernel
theorem dX10_table_128 : decode cX10_table 128 = .ok (.getfield 7, 3) := by decide +kernel
theorem dX10_table_131 : decode cX10_table 131 = .ok (.iload_n 1, 1) := by decide +kernel
theorem dX10_table_132 : decode cX10_table 132 = .ok (.iload_n 2, 1) := by decide +kernel
theorem dX10_table_133 : decode cX10_table 133 = .ok (.iastore, 1) := by decide +kernel
theorem dX10_table_134 : decode cX10_table 134 = .ok (.iload_n 3, 1) := by decide +kernel
theorem dX10_table_135 : decode cX10_table 135 = .ok (.istore 4, 2) := by decide +kernel
theorem dX10_table_137 : decode cX10_table 137 = .ok (.iconst 0, 1) := by decide +kernel
theorem dX10_table_138 : decode cX10_table 138 = .ok (.istore 6, 2) := by decide +kernel
theorem dX10_table_140 : decode cX10_table 140 = .ok (.iload 6, 2) := by decide +kernel
theorem dX10_table_142 : decode cX10_table 142 = .ok (.iload_n 2, 1) := by decide +kernel
theorem dX10_table_143 : decode cX10_table 143 = .ok (.if_icmp .ge 33, 3) := by decide +kernel
theorem dX10_table_146 : decode cX10_table 146 = .ok (.aload_n 0, 1) := by decide +kernel
theorem dX10_table_147 : decode cX10_table 147 = .ok (.getfield 13, 3) := by decide +kernel
theorem dX10_table_150 : decode cX10_table 150 = .ok (.bipush 6, 2) := by decide +kernel
theorem dX10_table_152 : decode cX10_table 152 = .ok (.iload_n 1, 1) := by decide +kernel
theorem dX10_table_153 : decode cX10_table 153 = .ok (.imul, 1) := by decide +kernel
theorem dX10_table_154 : decode cX10_table 154 = .ok (.iload 6, 2) := by decide +kernel
theorem dX10_table_156 : decode cX10_table 156 = .ok (.iadd, 1) := by decide +kernel
theorem dX10_table_157 : decode cX10_table 157 = .ok (.iload 4, 2) := by decide +kernel
theorem dX10_table_159 : decode cX10_table 159 = .ok (.bipush 10, 2) := by decide +kernel
theorem dX10_table_161 : decode cX10_table 161 = .ok (.irem, 1) := by decide +kernel
theorem dX10_table_162 : decode cX10_table 162 = .ok (.iastore, 1) := by decide +kernel
theorem dX10_table_163 : decode cX10_table 163 = .ok (.iload 4, 2) := by decide +kernel
theorem dX10_table_165 : decode cX10_table 165 = .ok (.bipush 10, 2) := by decide +kernel
theorem dX10_table_167 : decode cX10_table 167 = .ok (.idiv, 1) := by decide +kernel
theorem dX10_table_168 : decode cX10_table 168 = .ok (.istore 4, 2) := by decide +kernel
theorem dX10_table_170 : decode cX10_table 170 = .ok (.iinc 6 1, 3) := by decide +kernel
theorem dX10_table_173 : decode cX10_table 173 = .ok (.goto (-33), 3) := by decide +kernel
theorem dX10_table_176 : decode cX10_table 176 = .ok (.iload_n 2, 1) := by decide +kernel
theorem dX10_table_177 : decode cX10_table 177 = .ok (.ireturn, 1) := by decide +kernel
theorem dX10_row_0 : decode cX10_row 0 = .ok (.aload_n 0, 1) := by decide +kernel
theorem dX10_row_1 : decode cX10_row 1 = .ok (.iconst 0, 1) := by decide +kernel
theorem dX10_row_2 : decode cX10_row 2 = .ok (.putfield 93, 3) := by decide +kernel
theorem dX10_row_5 : decode cX10_row 5 = .ok (.aload_n 0, 1) := by decide +kernel
theorem dX10_row_6 : decode cX10_row 6 = .ok (.iload_n 1, 1) := by decide +kernel
theorem dX10_row_7 : decode cX10_row 7 = .ok (.invokevirtual 116, 3) := by decide +kernel
theorem dX10_row_10 : decode cX10_row 10 = .ok (.ifCond .eq 13, 3) := by decide +kernel
theorem dX10_row_13 : decode cX10_row 13 = .ok (.aload_n 0, 1) := by decide +kernel
theorem dX10_row_14 : decode cX10_row 14 = .ok (.aload_n 0, 1) := by decide +kernel
theorem dX10_row_15 : decode cX10_row 15 = .ok (.iload_n 1, 1) := by decide +kernel
theorem dX10_row_16 : decode cX10_row 16 = .ok (.invokevirtual 116, 3) := by decide +kernel
theorem dX10_row_19 : decode cX10_row 19 = .ok (.invokevirtual 112, 3) := by decide +kernel
theorem dX10_row_22 : decode cX10_row 22 = .ok (.ireturn, 1) := by decide +kernel
theorem dX10_row_23 : decode cX10_row 23 = .ok (.iload_n 2, 1) := by decide +kernel
theorem dX10_row_24 : decode cX10_row 24 = .ok (.i2l, 1) := by decide +kernel
theorem dX10_row_25 : decode cX10_row 25 = .ok (.lconst 1, 1) := by decide +kernel
theorem dX10_row_26 : decode cX10_row 26 = .ok (.ldc2_w 119, 3) := by decide +kernel
theorem dX10_row_29 : decode cX10_row 29 = .ok (.invokestatic 102, 3) := by decide +kernel
theorem dX10_row_32 : decode cX10_row 32 = .ok (.ifCond .ne 6, 3) := by decide +kernel
theorem dX10_row_35 : decode cX10_row 35 = .ok (.bipush (-2), 2) := by decide +kernel
theorem dX10_row_37 : decode cX10_row 37 = .ok (.ireturn, 1) := by decide +kernel
theorem dX10_row_38 : decode cX10_row 38 = .ok (.aload_n 0, 1) := by decide +kernel
theorem dX10_row_39 : decode cX10_row 39 = .ok (.getfield 106, 3) := by decide +kernel
theorem dX10_row_42 : decode cX10_row 42 = .ok (.bipush 12, 2) := by decide +kernel
theorem dX10_row_44 : decode cX10_row 44 = .ok (.if_icmp .ne 6, 3) := by decide +kernel
theorem dX10_row_47 : decode cX10_row 47 = .ok (.bipush (-4), 2) := by decide +kernel
theorem dX10_row_49 : decode cX10_row 49 = .ok (.ireturn, 1) := by decide +kernel
theorem dX10_row_50 : decode cX10_row 50 = .ok (.aload_n 0, 1) := by decide +kernel
theorem dX10_row_51 : decode cX10_row 51 = .ok (.getfield 16, 3) := by decide +kernel
theorem dX10_row_54 : decode cX10_row 54 = .ok (.aload_n 0, 1) := by decide +kernel
theorem dX10_row_55 : decode cX10_row 55 = .ok (.getfield 106, 3) := by decide +kernel
theorem dX10_row_58 : decode cX10_row 58 = .ok (.iload_n 1, 1) := by decide +kernel
theorem dX10_row_59 : decode cX10_row 59 = .ok (.iastore, 1) := by decide +kernel
theorem dX10_row_60 : decode cX10_row 60 = .ok (.aload_n 0, 1) := by decide +kernel
theorem dX10_row_61 : decode cX10_row 61 = .ok (.getfield 19, 3) := by decide +kernel
theorem dX10_row_64 : decode cX10_row 64 = .ok (.aload_n 0, 1) := by decide +kernel
theorem dX10_row_65 : decode cX10_row 65 = .ok (.getfield 106, 3) := by decide +kernel
theorem dX10_row_68 : decode cX10_row 68 = .ok (.iload_n 2, 1) := by decide +kernel
theorem dX10_row_69 : decode cX10_row 69 = .ok (.iastore, 1) := by decide +kernel
theorem dX10_row_70 : decode cX10_row 70 = .ok (.aload_n 0, 1) := by decide +kernel
theorem dX10_row_71 : decode cX10_row 71 = .ok (.getfield 22, 3) := by decide +kernel
theorem dX10_row_74 : decode cX10_row 74 = .ok (.aload_n 0, 1) := by decide +kernel
theorem dX10_row_75 : decode cX10_row 75 = .ok (.getfield 106, 3) := by decide +kernel
theorem dX10_row_78 : decode cX10_row 78 = .ok (.iconst 1, 1) := by decide +kernel
theorem dX10_row_79 : decode cX10_row 79 = .ok (.bastore, 1) := by decide +kernel
theorem dX10_row_80 : decode cX10_row 80 = .ok (.aload_n 0, 1) := by decide +kernel
theorem dX10_row_81 : decode cX10_row 81 = .ok (.dup, 1) := by decide +kernel
theorem dX10_row_82 : decode cX10_row 82 = .ok (.getfield 106, 3) := by decide +kernel
theorem dX10_row_85 : decode cX10_row 85 = .ok (.iconst 1, 1) := by decide +kernel
theorem dX10_row_86 : decode cX10_row 86 = .ok (.iadd, 1) := by decide +kernel
theorem dX10_row_87 : decode cX10_row 87 = .ok (.putfield 106, 3) := by decide +kernel
theorem dX10_row_90 : decode cX10_row 90 = .ok (.aload_n 0, 1) := by decide +kernel
theorem dX10_row_91 : decode cX10_row 91 = .ok (.iconst 0, 1) := by decide +kernel
theorem dX10_row_92 : decode cX10_row 92 = .ok (.putfield 121, 3) := by decide +kernel
theorem dX10_row_95 : decode cX10_row 95 = .ok (.aload_n 0, 1) := by decide +kernel
theorem dX10_row_96 : decode cX10_row 96 = .ok (.getfield 106, 3) := by decide +kernel
theorem dX10_row_99 : decode cX10_row 99 = .ok (.iconst 1, 1) := by decide +kernel
theorem dX10_row_100 : decode cX10_row 100 = .ok (.isub, 1) := by decide +kernel
theorem dX10_row_101 : decode cX10_row 101 = .ok (.ireturn, 1) := by decide +kernel
theorem dX10_lies_0 : decode cX10_lies 0 = .ok (.iload_n 0, 1) := by decide +kernel
theorem dX10_lies_1 : decode cX10_lies 1 = .ok (.tableswitch 56 0 4 #[35, 40, 45, 50, 54], 35) := by decide +kernel
theorem dX10_lies_36 : decode cX10_lies 36 = .ok (.lload_n 1, 1) := by decide +kernel
theorem dX10_lies_37 : decode cX10_lies 37 = .ok (.l2i, 1) := by decide +kernel
theorem dX10_lies_38 : decode cX10_lies 38 = .ok (.i2b, 1) := by decide +kernel
theorem dX10_lies_39 : decode cX10_lies 39 = .ok (.i2l, 1) := by decide +kernel
theorem dX10_lies_40 : decode cX10_lies 40 = .ok (.lreturn, 1) := by decide +kernel
theorem dX10_lies_41 : decode cX10_lies 41 = .ok (.lload_n 1, 1) := by decide +kernel
theorem dX10_lies_42 : decode cX10_lies 42 = .ok (.l2i, 1) := by decide +kernel
theorem dX10_lies_43 : decode cX10_lies 43 = .ok (.i2s, 1) := by decide +kernel
theorem dX10_lies_44 : decode cX10_lies 44 = .ok (.i2l, 1) := by decide +kernel
theorem dX10_lies_45 : decode cX10_lies 45 = .ok (.lreturn, 1) := by decide +kernel
theorem dX10_lies_46 : decode cX10_lies 46 = .ok (.lload_n 1, 1) := by decide +kernel
theorem dX10_lies_47 : decode cX10_lies 47 = .ok (.l2i, 1) := by decide +kernel
theorem dX10_lies_48 : decode cX10_lies 48 = .ok (.i2c, 1) := by decide +kernel
theorem dX10_lies_49 : decode cX10_lies 49 = .ok (.i2l, 1) := by decide +kernel
theorem dX10_lies_50 : decode cX10_lies 50 = .ok (.lreturn, 1) := by decide +kernel
theorem dX10_lies_51 : decode cX10_lies 51 = .ok (.lload_n 1, 1) := by decide +kernel
theorem dX10_lies_52 : decode cX10_lies 52 = .ok (.l2i, 1) := by decide +kernel
theorem dX10_lies_53 : decode cX10_lies 53 = .ok (.i2l, 1) := by decide +kernel
theorem dX10_lies_54 : decode cX10_lies 54 = .ok (.lreturn, 1) := by decide +kernel
theorem dX10_lies_55 : decode cX10_lies 55 = .ok (.lload_n 1, 1) := by decide +kernel
theorem dX10_lies_56 : decode cX10_lies 56 = .ok (.lreturn, 1) := by decide +kernel
theorem dX10_lies_57 : decode cX10_lies 57 = .ok (.lload_n 1, 1) := by decide +kernel
theorem dX10_lies_58 : decode cX10_lies 58 = .ok (.l2d, 1) := by decide +kernel
theorem dX10_lies_59 : decode cX10_lies 59 = .ok (.d2l, 1) := by decide +kernel
theorem dX10_lies_60 : decode cX10_lies 60 = .ok (.lreturn, 1) := by decide +kernel
theorem dX10_put_0 : decode cX10_put 0 = .ok (.aload_n 0, 1) := by decide +kernel
theorem dX10_put_1 : decode cX10_put 1 = .ok (.iconst 0, 1) := by decide +kernel
theorem dX10_put_2 : decode cX10_put 2 = .ok (.putfield 93, 3) := by decide +kernel
theorem dX10_put_5 : decode cX10_put 5 = .ok (.aload_n 0, 1) := by decide +kernel
theorem dX10_put_6 : decode cX10_put 6 = .ok (.iload_n 1, 1) := by decide +kernel
theorem dX10_put_7 : decode cX10_put 7 = .ok (.invokevirtual 125, 3) := by decide +kernel
theorem dX10_put_10 : decode cX10_put 10 = .ok (.ifCond .eq 5, 3) := by decide +kernel
theorem dX10_put_13 : decode cX10_put 13 = .ok (.iconst (-1), 1) := by decide +kernel
theorem dX10_put_14 : decode cX10_put 14 = .ok (.ireturn, 1) := by decide +kernel
theorem dX10_put_15 : decode cX10_put 15 = .ok (.aload_n 0, 1) := by decide +kernel
theorem dX10_put_16 : decode cX10_put 16 = .ok (.aload_n 0, 1) := by decide +kernel
theorem dX10_put_17 : decode cX10_put 17 = .ok (.getfield 16, 3) := by decide +kernel
theorem dX10_put_20 : decode cX10_put 20 = .ok (.iload_n 1, 1) := by decide +kernel
theorem dX10_put_21 : decode cX10_put 21 = .ok (.iaload, 1) := by decide +kernel
theorem dX10_put_22 : decode cX10_put 22 = .ok (.iload_n 2, 1) := by decide +kernel
theorem dX10_put_23 : decode cX10_put 23 = .ok (.invokevirtual 129, 3) := by decide +kernel
theorem dX10_put_26 : decode cX10_put 26 = .ok (.ifCond .eq 10, 3) := by decide +kernel
theorem dX10_put_29 : decode cX10_put 29 = .ok (.aload_n 0, 1) := by decide +kernel
theorem dX10_put_30 : decode cX10_put 30 = .ok (.bipush (-12), 2) := by decide +kernel
theorem dX10_put_32 : decode cX10_put 32 = .ok (.invokevirtual 112, 3) := by decide +kernel
theorem dX10_put_35 : decode cX10_put 35 = .ok (.ireturn, 1) := by decide +kernel
theorem dX10_put_36 : decode cX10_put 36 = .ok (.aload_n 0, 1) := by decide +kernel
theorem dX10_put_37 : decode cX10_put 37 = .ok (.getfield 29, 3) := by decide +kernel
theorem dX10_put_40 : decode cX10_put 40 = .ok (.bipush 6, 2) := by decide +kernel
theorem dX10_put_42 : decode cX10_put 42 = .ok (.iload_n 1, 1) := by decide +kernel
theorem dX10_put_43 : decode cX10_put 43 = .ok (.imul, 1) := by decide +kernel
theorem dX10_put_44 : decode cX10_put 44 = .ok (.iload_n 2, 1) := by decide +kernel
theorem dX10_put_45 : decode cX10_put 45 = .ok (.iadd, 1) := by decide +kernel
theorem dX10_put_46 : decode cX10_put 46 = .ok (.aload_n 0, 1) := by decide +kernel
theorem dX10_put_47 : decode cX10_put 47 = .ok (.getfield 13, 3) := by decide +kernel
theorem dX10_put_50 : decode cX10_put 50 = .ok (.bipush 6, 2) := by decide +kernel
theorem dX10_put_52 : decode cX10_put 52 = .ok (.aload_n 0, 1) := by decide +kernel
theorem dX10_put_53 : decode cX10_put 53 = .ok (.getfield 16, 3) := by decide +kernel
theorem dX10_put_56 : decode cX10_put 56 = .ok (.iload_n 1, 1) := by decide +kernel
theorem dX10_put_57 : decode cX10_put 57 = .ok (.iaload, 1) := by decide +kernel
theorem dX10_put_58 : decode cX10_put 58 = .ok (.imul, 1) := by decide +kernel
theorem dX10_put_59 : decode cX10_put 59 = .ok (.iload_n 2, 1) := by decide +kernel
theorem dX10_put_60 : decode cX10_put 60 = .ok (.iadd, 1) := by decide +kernel
theorem dX10_put_61 : decode cX10_put 61 = .ok (.iaload, 1) := by decide +kernel
theorem dX10_put_62 : decode cX10_put 62 = .ok (.lload_n 3, 1) := by decide +kernel
theorem dX10_put_63 : decode cX10_put 63 = .ok (.invokestatic 133, 3) := by decide +kernel
theorem dX10_put_66 : decode cX10_put 66 = .ok (.lastore, 1) := by decide +kernel
theorem dX10_put_67 : decode cX10_put 67 = .ok (.aload_n 0, 1) := by decide +kernel
theorem dX10_put_68 : decode cX10_put 68 = .ok (.getfield 26, 3) := by decide +kernel
theorem dX10_put_71 : decode cX10_put 71 = .ok (.bipush 6, 2) := by decide +kernel
theorem dX10_put_73 : decode cX10_put 73 = .ok (.iload_n 1, 1) := by decide +kernel
theorem dX10_put_74 : decode cX10_put 74 = .ok (.imul, 1) := by decide +kernel
theorem dX10_put_75 : decode cX10_put 75 = .ok (.iload_n 2, 1) := by decide +kernel
theorem dX10_put_76 : decode cX10_put 76 = .ok (.iadd, 1) := by decide +kernel
theorem dX10_put_77 : decode cX10_put 77 = .ok (.iconst 1, 1) := by decide +kernel
theorem dX10_put_78 : decode cX10_put 78 = .ok (.bastore, 1) := by decide +kernel
theorem dX10_put_79 : decode cX10_put 79 = .ok (.aload_n 0, 1) := by decide +kernel
theorem dX10_put_80 : decode cX10_put 80 = .ok (.iconst 0, 1) := by decide +kernel
theorem dX10_put_81 : decode cX10_put 81 = .ok (.putfield 121, 3) := by decide +kernel
theorem dX10_put_84 : decode cX10_put 84 = .ok (.iconst 1, 1) := by decide +kernel
theorem dX10_put_85 : decode cX10_put 85 = .ok (.ireturn, 1) := by decide +kernel
theorem dX10_miss_0 : decode cX10_miss 0 = .ok (.aload_n 0, 1) := by decide +kernel
theorem dX10_miss_1 : decode cX10_miss 1 = .ok (.iconst 0, 1) := by decide +kernel
theorem dX10_miss_2 : decode cX10_miss 2 = .ok (.putfield 93, 3) := by decide +kernel
theorem dX10_miss_5 : decode cX10_miss 5 = .ok (.aload_n 0, 1) := by decide +kernel
theorem dX10_miss_6 : decode cX10_miss 6 = .ok (.iload_n 1, 1) := by decide +kernel
theorem dX10_miss_7 : decode cX10_miss 7 = .ok (.invokevirtual 125, 3) := by decide +kernel
theorem dX10_miss_10 : decode cX10_miss 10 = .ok (.ifCond .eq 5, 3) := by decide +kernel
theorem dX10_miss_13 : decode cX10_miss 13 = .ok (.iconst (-1), 1) := by decide +kernel
theorem dX10_miss_14 : decode cX10_miss 14 = .ok (.ireturn, 1) := by decide +kernel
theorem dX10_miss_15 : decode cX10_miss 15 = .ok (.aload_n 0, 1) := by decide +kernel
theorem dX10_miss_16 : decode cX10_miss 16 = .ok (.aload_n 0, 1) := by decide +kernel
theorem dX10_miss_17 : decode cX10_miss 17 = .ok (.getfield 16, 3) := by decide +kernel
theorem dX10_miss_20 : decode cX10_miss 20 = .ok (.iload_n 1, 1) := by decide +kernel
theorem dX10_miss_21 : decode cX10_miss 21 = .ok (.iaload, 1) := by decide +kernel
theorem dX10_miss_22 : decode cX10_miss 22 = .ok (.iload_n 2, 1) := by decide +kernel
theorem dX10_miss_23 : decode cX10_miss 23 = .ok (.invokevirtual 129, 3) := by decide +kernel
theorem dX10_miss_26 : decode cX10_miss 26 = .ok (.ifCond .eq 10, 3) := by decide +kernel
theorem dX10_miss_29 : decode cX10_miss 29 = .ok (.aload_n 0, 1) := by decide +kernel
theorem dX10_miss_30 : decode cX10_miss 30 = .ok (.bipush (-12), 2) := by decide +kernel
theorem dX10_miss_32 : decode cX10_miss 32 = .ok (.invokevirtual 112, 3) := by decide +kernel
theorem dX10_miss_35 : decode cX10_miss 35 = .ok (.ireturn, 1) := by decide +kernel
theorem dX10_miss_36 : decode cX10_miss 36 = .ok (.aload_n 0, 1) := by decide +kernel
theorem dX10_miss_37 : decode cX10_miss 37 = .ok (.getfield 26, 3) := by decide +kernel
theorem dX10_miss_40 : decode cX10_miss 40 = .ok (.bipush 6, 2) := by decide +kernel
theorem dX10_miss_42 : decode cX10_miss 42 = .ok (.iload_n 1, 1) := by decide +kernel
theorem dX10_miss_43 : decode cX10_miss 43 = .ok (.imul, 1) := by decide +kernel
theorem dX10_miss_44 : decode cX10_miss 44 = .ok (.iload_n 2, 1) := by decide +kernel
theorem dX10_miss_45 : decode cX10_miss 45 = .ok (.iadd, 1) := by decide +kernel
theorem dX10_miss_46 : decode cX10_miss 46 = .ok (.baload, 1) := by decide +kernel
theorem dX10_miss_47 : decode cX10_miss 47 = .ok (.ifCond .eq 7, 3) := by decide +kernel
theorem dX10_miss_50 : decode cX10_miss 50 = .ok (.iconst 0, 1) := by decide +kernel
theorem dX10_miss_51 : decode cX10_miss 51 = .ok (.goto 4, 3) := by decide +kernel
theorem dX10_miss_54 : decode cX10_miss 54 = .ok (.iconst 1, 1) := by decide +kernel
theorem dX10_miss_55 : decode cX10_miss 55 = .ok (.istore_n 3, 1) := by decide +kernel
theorem dX10_miss_56 : decode cX10_miss 56 = .ok (.aload_n 0, 1) := by decide +kernel
theorem dX10_miss_57 : decode cX10_miss 57 = .ok (.getfield 26, 3) := by decide +kernel
theorem dX10_miss_60 : decode cX10_miss 60 = .ok (.bipush 6, 2) := by decide +kernel
theorem dX10_miss_62 : decode cX10_miss 62 = .ok (.iload_n 1, 1) := by decide +kernel
theorem dX10_miss_63 : decode cX10_miss 63 = .ok (.imul, 1) := by decide +kernel
theorem dX10_miss_64 : decode cX10_miss 64 = .ok (.iload_n 2, 1) := by decide +kernel
theorem dX10_miss_65 : decode cX10_miss 65 = .ok (.iadd, 1) := by decide +kernel
theorem dX10_miss_66 : decode cX10_miss 66 = .ok (.iconst 0, 1) := by decide +kernel
theorem dX10_miss_67 : decode cX10_miss 67 = .ok (.bastore, 1) := by decide +kernel
theorem dX10_miss_68 : decode cX10_miss 68 = .ok (.aload_n 0, 1) := by decide +kernel
theorem dX10_miss_69 : decode cX10_miss 69 = .ok (.getfield 29, 3) := by decide +kernel
theorem dX10_miss_72 : decode cX10_miss 72 = .ok (.bipush 6, 2) := by decide +kernel
theorem dX10_miss_74 : decode cX10_miss 74 = .ok (.iload_n 1, 1) := by decide +kernel
theorem dX10_miss_75 : decode cX10_miss 75 = .ok (.imul, 1) := by decide +kernel
theorem dX10_miss_76 : decode cX10_miss 76 = .ok (.iload_n 2, 1) := by decide +kernel
theorem dX10_miss_77 : decode cX10_miss 77 = .ok (.iadd, 1) := by decide +kernel
theorem dX10_miss_78 : decode cX10_miss 78 = .ok (.lconst 0, 1) := by decide +kernel
theorem dX10_miss_79 : decode cX10_miss 79 = .ok (.lastore, 1) := by decide +kernel
theorem dX10_miss_80 : decode cX10_miss 80 = .ok (.aload_n 0, 1) := by decide +kernel
theorem dX10_miss_81 : decode cX10_miss 81 = .ok (.iconst 0, 1) := by decide +kernel
theorem dX10_miss_82 : decode cX10_miss 82 = .ok (.putfield 121, 3) := by decide +kernel
theorem dX10_miss_85 : decode cX10_miss 85 = .ok (.iload_n 3, 1) := by decide +kernel
theorem dX10_miss_86 : decode cX10_miss 86 = .ok (.ireturn, 1) := by decide +kernel
theorem dX10_has_0 : decode cX10_has 0 = .ok (.aload_n 0, 1) := by decide +kernel
theorem dX10_has_1 : decode cX10_has 1 = .ok (.iconst 0, 1) := by decide +kernel
theorem dX10_has_2 : decode cX10_has 2 = .ok (.putfield 93, 3) := by decide +kernel
theorem dX10_has_5 : decode cX10_has 5 = .ok (.aload_n 0, 1) := by decide +kernel
theorem dX10_has_6 : decode cX10_has 6 = .ok (.iload_n 1, 1) := by decide +kernel
theorem dX10_has_7 : decode cX10_has 7 = .ok (.invokevirtual 125, 3) := by decide +kernel
theorem dX10_has_10 : decode cX10_has 10 = .ok (.ifCond .eq 5, 3) := by decide +kernel
theorem dX10_has_13 : decode cX10_has 13 = .ok (.iconst (-1), 1) := by decide +kernel
theorem dX10_has_14 : decode cX10_has 14 = .ok (.ireturn, 1) := by decide +kernel
theorem dX10_has_15 : decode cX10_has 15 = .ok (.aload_n 0, 1) := by decide +kernel
theorem dX10_has_16 : decode cX10_has 16 = .ok (.aload_n 0, 1) := by decide +kernel
theorem dX10_has_17 : decode cX10_has 17 = .ok (.getfield 16, 3) := by decide +kernel
theorem dX10_has_20 : decode cX10_has 20 = .ok (.iload_n 1, 1) := by decide +kernel
theorem dX10_has_21 : decode cX10_has 21 = .ok (.iaload, 1) := by decide +kernel
theorem dX10_has_22 : decode cX10_has 22 = .ok (.iload_n 2, 1) := by decide +kernel
theorem dX10_has_23 : decode cX10_has 23 = .ok (.invokevirtual 129, 3) := by decide +kernel
theorem dX10_has_26 : decode cX10_has 26 = .ok (.ifCond .eq 12, 3) := by decide +kernel
theorem dX10_has_29 : decode cX10_has 29 = .ok (.aload_n 0, 1) := by decide +kernel
theorem dX10_has_30 : decode cX10_has 30 = .ok (.bipush (-12), 2) := by decide +kernel
theorem dX10_has_32 : decode cX10_has 32 = .ok (.invokevirtual 112, 3) := by decide +kernel
theorem dX10_has_35 : decode cX10_has 35 = .ok (.goto 22, 3) := by decide +kernel
theorem dX10_has_38 : decode cX10_has 38 = .ok (.aload_n 0, 1) := by decide +kernel
theorem dX10_has_39 : decode cX10_has 39 = .ok (.getfield 26, 3) := by decide +kernel
theorem dX10_has_42 : decode cX10_has 42 = .ok (.bipush 6, 2) := by decide +kernel
theorem dX10_has_44 : decode cX10_has 44 = .ok (.iload_n 1, 1) := by decide +kernel
theorem dX10_has_45 : decode cX10_has 45 = .ok (.imul, 1) := by decide +kernel
theorem dX10_has_46 : decode cX10_has 46 = .ok (.iload_n 2, 1) := by decide +kernel
theorem dX10_has_47 : decode cX10_has 47 = .ok (.iadd, 1) := by decide +kernel
theorem dX10_has_48 : decode cX10_has 48 = .ok (.baload, 1) := by decide +kernel
theorem dX10_has_49 : decode cX10_has 49 = .ok (.ifCond .eq 7, 3) := by decide +kernel
theorem dX10_has_52 : decode cX10_has 52 = .ok (.iconst 1, 1) := by decide +kernel
theorem dX10_has_53 : decode cX10_has 53 = .ok (.goto 4, 3) := by decide +kernel
theorem dX10_has_56 : decode cX10_has 56 = .ok (.iconst 0, 1) := by decide +kernel
theorem dX10_has_57 : decode cX10_has 57 = .ok (.ireturn, 1) := by decide +kernel
theorem dX10_cell_0 : decode cX10_cell 0 = .ok (.aload_n 0, 1) := by decide +kernel
theorem dX10_cell_1 : decode cX10_cell 1 = .ok (.iconst 0, 1) := by decide +kernel
theorem dX10_cell_2 : decode cX10_cell 2 = .ok (.putfield 93, 3) := by decide +kernel
theorem dX10_cell_5 : decode cX10_cell 5 = .ok (.aload_n 0, 1) := by decide +kernel
theorem dX10_cell_6 : decode cX10_cell 6 = .ok (.iload_n 1, 1) := by decide +kernel
theorem dX10_cell_7 : decode cX10_cell 7 = .ok (.invokevirtual 125, 3) := by decide +kernel
theorem dX10_cell_10 : decode cX10_cell 10 = .ok (.ifCond .eq 7, 3) := by decide +kernel
theorem dX10_cell_13 : decode cX10_cell 13 = .ok (.ldc2_w 137, 3) := by decide +kernel
theorem dX10_cell_16 : decode cX10_cell 16 = .ok (.lreturn, 1) := by decide +kernel
theorem dX10_cell_17 : decode cX10_cell 17 = .ok (.aload_n 0, 1) := by decide +kernel
theorem dX10_cell_18 : decode cX10_cell 18 = .ok (.aload_n 0, 1) := by decide +kernel
theorem dX10_cell_19 : decode cX10_cell 19 = .ok (.getfield 16, 3) := by decide +kernel
theorem dX10_cell_22 : decode cX10_cell 22 = .ok (.iload_n 1, 1) := by decide +kernel
theorem dX10_cell_23 : decode cX10_cell 23 = .ok (.iaload, 1) := by decide +kernel
theorem dX10_cell_24 : decode cX10_cell 24 = .ok (.iload_n 2, 1) := by decide +kernel
theorem dX10_cell_25 : decode cX10_cell 25 = .ok (.invokevirtual 129, 3) := by decide +kernel
theorem dX10_cell_28 : decode cX10_cell 28 = .ok (.ifCond .eq 13, 3) := by decide +kernel
theorem dX10_cell_31 : decode cX10_cell 31 = .ok (.aload_n 0, 1) := by decide +kernel
theorem dX10_cell_32 : decode cX10_cell 32 = .ok (.bipush (-12), 2) := by decide +kernel
theorem dX10_cell_34 : decode cX10_cell 34 = .ok (.invokevirtual 112, 3) := by decide +kernel
theorem dX10_cell_37 : decode cX10_cell 37 = .ok (.i2l, 1) := by decide +kernel
theorem dX10_cell_38 : decode cX10_cell 38 = .ok (.goto 32, 3) := by decide +kernel
theorem dX10_cell_41 : decode cX10_cell 41 = .ok (.aload_n 0, 1) := by decide +kernel
theorem dX10_cell_42 : decode cX10_cell 42 = .ok (.getfield 26, 3) := by decide +kernel
theorem dX10_cell_45 : decode cX10_cell 45 = .ok (.bipush 6, 2) := by decide +kernel
theorem dX10_cell_47 : decode cX10_cell 47 = .ok (.iload_n 1, 1) := by decide +kernel
theorem dX10_cell_48 : decode cX10_cell 48 = .ok (.imul, 1) := by decide +kernel
theorem dX10_cell_49 : decode cX10_cell 49 = .ok (.iload_n 2, 1) := by decide +kernel
theorem dX10_cell_50 : decode cX10_cell 50 = .ok (.iadd, 1) := by decide +kernel
theorem dX10_cell_51 : decode cX10_cell 51 = .ok (.baload, 1) := by decide +kernel
theorem dX10_cell_52 : decode cX10_cell 52 = .ok (.ifCond .eq 17, 3) := by decide +kernel
theorem dX10_cell_55 : decode cX10_cell 55 = .ok (.aload_n 0, 1) := by decide +kernel
theorem dX10_cell_56 : decode cX10_cell 56 = .ok (.getfield 29, 3) := by decide +kernel
theorem dX10_cell_59 : decode cX10_cell 59 = .ok (.bipush 6, 2) := by decide +kernel
theorem dX10_cell_61 : decode cX10_cell 61 = .ok (.iload_n 1, 1) := by decide +kernel
theorem dX10_cell_62 : decode cX10_cell 62 = .ok (.imul, 1) := by decide +kernel
theorem dX10_cell_63 : decode cX10_cell 63 = .ok (.iload_n 2, 1) := by decide +kernel
theorem dX10_cell_64 : decode cX10_cell 64 = .ok (.iadd, 1) := by decide +kernel
theorem dX10_cell_65 : decode cX10_cell 65 = .ok (.laload, 1) := by decide +kernel
theorem dX10_cell_66 : decode cX10_cell 66 = .ok (.goto 4, 3) := by decide +kernel
theorem dX10_cell_69 : decode cX10_cell 69 = .ok (.lconst 0, 1) := by decide +kernel
theorem dX10_cell_70 : decode cX10_cell 70 = .ok (.lreturn, 1) := by decide +kernel
theorem dX10_column_0 : decode cX10_column 0 = .ok (.aload_n 0, 1) := by decide +kernel
theorem dX10_column_1 : decode cX10_column 1 = .ok (.iconst 0, 1) := by decide +kernel
theorem dX10_column_2 : decode cX10_column 2 = .ok (.putfield 93, 3) := by decide +kernel
theorem dX10_column_5 : decode cX10_column 5 = .ok (.aload_n 0, 1) := by decide +kernel
theorem dX10_column_6 : decode cX10_column 6 = .ok (.iload_n 1, 1) := by decide +kernel
theorem dX10_column_7 : decode cX10_column 7 = .ok (.invokevirtual 116, 3) := by decide +kernel
theorem dX10_column_10 : decode cX10_column 10 = .ok (.ifCond .eq 13, 3) := by decide +kernel
theorem dX10_column_13 : decode cX10_column 13 = .ok (.aload_n 0, 1) := by decide +kernel
theorem dX10_column_14 : decode cX10_column 14 = .ok (.aload_n 0, 1) := by decide +kernel
theorem dX10_column_15 : decode cX10_column 15 = .ok (.iload_n 1, 1) := by decide +kernel
theorem dX10_column_16 : decode cX10_column 16 = .ok (.invokevirtual 116, 3) := by decide +kernel
theorem dX10_column_19 : decode cX10_column 19 = .ok (.invokevirtual 112, 3) := by decide +kernel
theorem dX10_column_22 : decode cX10_column 22 = .ok (.ireturn, 1) := by decide +kernel
theorem dX10_column_23 : decode cX10_column 23 = .ok (.iload_n 3, 1) := by decide +kernel
theorem dX10_column_24 : decode cX10_column 24 = .ok (.i2l, 1) := by decide +kernel
theorem dX10_column_25 : decode cX10_column 25 = .ok (.lconst 0, 1) := by decide +kernel
theorem dX10_column_26 : decode cX10_column 26 = .ok (.ldc2_w 139, 3) := by decide +kernel
theorem dX10_column_29 : decode cX10_column 29 = .ok (.invokestatic 102, 3) := by decide +kernel
theorem dX10_column_32 : decode cX10_column 32 = .ok (.ifCond .ne 6, 3) := by decide +kernel
theorem dX10_column_35 : decode cX10_column 35 = .ok (.bipush (-2), 2) := by decide +kernel
theorem dX10_column_37 : decode cX10_column 37 = .ok (.ireturn, 1) := by decide +kernel
theorem dX10_column_38 : decode cX10_column 38 = .ok (.aload_n 0, 1) := by decide +kernel
theorem dX10_column_39 : decode cX10_column 39 = .ok (.iload_n 1, 1) := by decide +kernel
theorem dX10_column_40 : decode cX10_column 40 = .ok (.iload_n 2, 1) := by decide +kernel
theorem dX10_column_41 : decode cX10_column 41 = .ok (.invokevirtual 129, 3) := by decide +kernel
theorem dX10_column_44 : decode cX10_column 44 = .ok (.ifCond .eq 10, 3) := by decide +kernel
theorem dX10_column_47 : decode cX10_column 47 = .ok (.aload_n 0, 1) := by decide +kernel
theorem dX10_column_48 : decode cX10_column 48 = .ok (.bipush (-12), 2) := by decide +kernel
theorem dX10_column_50 : decode cX10_column 50 = .ok (.invokevirtual 112, 3) := by decide +kernel
theorem dX10_column_53 : decode cX10_column 53 = .ok (.ireturn, 1) := by decide +kernel
theorem dX10_column_54 : decode cX10_column 54 = .ok (.aload_n 0, 1) := by decide +kernel
theorem dX10_column_55 : decode cX10_column 55 = .ok (.getfield 13, 3) := by decide +kernel
theorem dX10_column_58 : decode cX10_column 58 = .ok (.bipush 6, 2) := by decide +kernel
theorem dX10_column_60 : decode cX10_column 60 = .ok (.iload_n 1, 1) := by decide +kernel
theorem dX10_column_61 : decode cX10_column 61 = .ok (.imul, 1) := by decide +kernel
theorem dX10_column_62 : decode cX10_column 62 = .ok (.iload_n 2, 1) := by decide +kernel
theorem dX10_column_63 : decode cX10_column 63 = .ok (.iadd, 1) := by decide +kernel
theorem dX10_column_64 : decode cX10_column 64 = .ok (.iaload, 1) := by decide +kernel
theorem dX10_column_65 : decode cX10_column 65 = .ok (.iload_n 3, 1) := by decide +kernel
theorem dX10_column_66 : decode cX10_column 66 = .ok (.if_icmp .eq 10, 3) := by decide +kernel
theorem dX10_column_69 : decode cX10_column 69 = .ok (.aload_n 0, 1) := by decide +kernel
theorem dX10_column_70 : decode cX10_column 70 = .ok (.bipush (-13), 2) := by decide +kernel
theorem dX10_column_72 : decode cX10_column 72 = .ok (.invokevirtual 112, 3) := by decide +kernel
theorem dX10_column_75 : decode cX10_column 75 = .ok (.ireturn, 1) := by decide +kernel
theorem dX10_column_76 : decode cX10_column 76 = .ok (.iconst 0, 1) := by decide +kernel
theorem dX10_column_77 : decode cX10_column 77 = .ok (.istore 4, 2) := by decide +kernel
theorem dX10_column_79 : decode cX10_column 79 = .ok (.iconst 0, 1) := by decide +kernel
theorem dX10_column_80 : decode cX10_column 80 = .ok (.istore 5, 2) := by decide +kernel
theorem dX10_column_82 : decode cX10_column 82 = .ok (.iload 5, 2) := by decide +kernel
theorem dX10_column_84 : decode cX10_column 84 = .ok (.aload_n 0, 1) := by decide +kernel
theorem dX10_column_85 : decode cX10_column 85 = .ok (.getfield 106, 3) := by decide +kernel
theorem dX10_column_88 : decode cX10_column 88 = .ok (.if_icmp .ge 30, 3) := by decide +kernel
theorem dX10_column_91 : decode cX10_column 91 = .ok (.iload 4, 2) := by decide +kernel
theorem dX10_column_93 : decode cX10_column 93 = .ok (.aload_n 0, 1) := by decide +kernel
theorem dX10_column_94 : decode cX10_column 94 = .ok (.getfield 16, 3) := by decide +kernel
theorem dX10_column_97 : decode cX10_column 97 = .ok (.iload 5, 2) := by decide +kernel
theorem dX10_column_99 : decode cX10_column 99 = .ok (.iaload, 1) := by decide +kernel
theorem dX10_column_100 : decode cX10_column 100 = .ok (.iload_n 1, 1) := by decide +kernel
theorem dX10_column_101 : decode cX10_column 101 = .ok (.if_icmp .ne 7, 3) := by decide +kernel
theorem dX10_column_104 : decode cX10_column 104 = .ok (.iconst 1, 1) := by decide +kernel
theorem dX10_column_105 : decode cX10_column 105 = .ok (.goto 4, 3) := by decide +kernel
theorem dX10_column_108 : decode cX10_column 108 = .ok (.iconst 0, 1) := by decide +kernel
theorem dX10_column_109 : decode cX10_column 109 = .ok (.iadd, 1) := by decide +kernel
theorem dX10_column_110 : decode cX10_column 110 = .ok (.istore 4, 2) := by decide +kernel
theorem dX10_column_112 : decode cX10_column 112 = .ok (.iinc 5 1, 3) := by decide +kernel
theorem dX10_column_115 : decode cX10_column 115 = .ok (.goto (-33), 3) := by decide +kernel
theorem dX10_column_118 : decode cX10_column 118 = .ok (.iload 4, 2) := by decide +kernel
theorem dX10_column_120 : decode cX10_column 120 = .ok (.ireturn, 1) := by decide +kernel
theorem dX10_trust_0 : decode cX10_trust 0 = .ok (.aload_n 0, 1) := by decide +kernel
theorem dX10_trust_1 : decode cX10_trust 1 = .ok (.iconst 0, 1) := by decide +kernel
theorem dX10_trust_2 : decode cX10_trust 2 = .ok (.putfield 93, 3) := by decide +kernel
theorem dX10_trust_5 : decode cX10_trust 5 = .ok (.aload_n 0, 1) := by decide +kernel
theorem dX10_trust_6 : decode cX10_trust 6 = .ok (.iload_n 1, 1) := by decide +kernel
theorem dX10_trust_7 : decode cX10_trust 7 = .ok (.invokevirtual 125, 3) := by decide +kernel
theorem dX10_trust_10 : decode cX10_trust 10 = .ok (.ifCond .eq 5, 3) := by decide +kernel
theorem dX10_trust_13 : decode cX10_trust 13 = .ok (.iconst (-1), 1) := by decide +kernel
theorem dX10_trust_14 : decode cX10_trust 14 = .ok (.ireturn, 1) := by decide +kernel
theorem dX10_trust_15 : decode cX10_trust 15 = .ok (.iload_n 2, 1) := by decide +kernel
theorem dX10_trust_16 : decode cX10_trust 16 = .ok (.i2l, 1) := by decide +kernel
theorem dX10_trust_17 : decode cX10_trust 17 = .ok (.lconst 1, 1) := by decide +kernel
theorem dX10_trust_18 : decode cX10_trust 18 = .ok (.ldc2_w 119, 3) := by decide +kernel
theorem dX10_trust_21 : decode cX10_trust 21 = .ok (.invokestatic 102, 3) := by decide +kernel
theorem dX10_trust_24 : decode cX10_trust 24 = .ok (.ifCond .ne 6, 3) := by decide +kernel
theorem dX10_trust_27 : decode cX10_trust 27 = .ok (.bipush (-2), 2) := by decide +kernel
theorem dX10_trust_29 : decode cX10_trust 29 = .ok (.ireturn, 1) := by decide +kernel
theorem dX10_trust_30 : decode cX10_trust 30 = .ok (.aload_n 0, 1) := by decide +kernel
theorem dX10_trust_31 : decode cX10_trust 31 = .ok (.getfield 19, 3) := by decide +kernel
theorem dX10_trust_34 : decode cX10_trust 34 = .ok (.iload_n 1, 1) := by decide +kernel
theorem dX10_trust_35 : decode cX10_trust 35 = .ok (.iaload, 1) := by decide +kernel
theorem dX10_trust_36 : decode cX10_trust 36 = .ok (.istore_n 3, 1) := by decide +kernel
theorem dX10_trust_37 : decode cX10_trust 37 = .ok (.aload_n 0, 1) := by decide +kernel
theorem dX10_trust_38 : decode cX10_trust 38 = .ok (.getfield 19, 3) := by decide +kernel
theorem dX10_trust_41 : decode cX10_trust 41 = .ok (.iload_n 1, 1) := by decide +kernel
theorem dX10_trust_42 : decode cX10_trust 42 = .ok (.iload_n 2, 1) := by decide +kernel
theorem dX10_trust_43 : decode cX10_trust 43 = .ok (.iastore, 1) := by decide +kernel
theorem dX10_trust_44 : decode cX10_trust 44 = .ok (.iload_n 3, 1) := by decide +kernel
theorem dX10_trust_45 : decode cX10_trust 45 = .ok (.ireturn, 1) := by decide +kernel
theorem dX10_keep_0 : decode cX10_keep 0 = .ok (.aload_n 0, 1) := by decide +kernel
theorem dX10_keep_1 : decode cX10_keep 1 = .ok (.iconst 0, 1) := by decide +kernel
theorem dX10_keep_2 : decode cX10_keep 2 = .ok (.putfield 93, 3) := by decide +kernel
theorem dX10_keep_5 : decode cX10_keep 5 = .ok (.aload_n 0, 1) := by decide +kernel
theorem dX10_keep_6 : decode cX10_keep 6 = .ok (.iload_n 1, 1) := by decide +kernel
theorem dX10_keep_7 : decode cX10_keep 7 = .ok (.invokevirtual 125, 3) := by decide +kernel
theorem dX10_keep_10 : decode cX10_keep 10 = .ok (.ifCond .eq 5, 3) := by decide +kernel
theorem dX10_keep_13 : decode cX10_keep 13 = .ok (.iconst (-1), 1) := by decide +kernel
theorem dX10_keep_14 : decode cX10_keep 14 = .ok (.ireturn, 1) := by decide +kernel
theorem dX10_keep_15 : decode cX10_keep 15 = .ok (.aload_n 0, 1) := by decide +kernel
theorem dX10_keep_16 : decode cX10_keep 16 = .ok (.getfield 22, 3) := by decide +kernel
theorem dX10_keep_19 : decode cX10_keep 19 = .ok (.iload_n 1, 1) := by decide +kernel
theorem dX10_keep_20 : decode cX10_keep 20 = .ok (.baload, 1) := by decide +kernel
theorem dX10_keep_21 : decode cX10_keep 21 = .ok (.ifCond .eq 7, 3) := by decide +kernel
theorem dX10_keep_24 : decode cX10_keep 24 = .ok (.iconst 1, 1) := by decide +kernel
theorem dX10_keep_25 : decode cX10_keep 25 = .ok (.goto 4, 3) := by decide +kernel
theorem dX10_keep_28 : decode cX10_keep 28 = .ok (.iconst 0, 1) := by decide +kernel
theorem dX10_keep_29 : decode cX10_keep 29 = .ok (.istore_n 3, 1) := by decide +kernel
theorem dX10_keep_30 : decode cX10_keep 30 = .ok (.aload_n 0, 1) := by decide +kernel
theorem dX10_keep_31 : decode cX10_keep 31 = .ok (.getfield 22, 3) := by decide +kernel
theorem dX10_keep_34 : decode cX10_keep 34 = .ok (.iload_n 1, 1) := by decide +kernel
theorem dX10_keep_35 : decode cX10_keep 35 = .ok (.iload_n 2, 1) := by decide +kernel
theorem dX10_keep_36 : decode cX10_keep 36 = .ok (.bastore, 1) := by decide +kernel
theorem dX10_keep_37 : decode cX10_keep 37 = .ok (.aload_n 0, 1) := by decide +kernel
theorem dX10_keep_38 : decode cX10_keep 38 = .ok (.iconst 0, 1) := by decide +kernel
theorem dX10_keep_39 : decode cX10_keep 39 = .ok (.putfield 121, 3) := by decide +kernel
theorem dX10_keep_42 : decode cX10_keep 42 = .ok (.iload_n 3, 1) := by decide +kernel
theorem dX10_keep_43 : decode cX10_keep 43 = .ok (.ireturn, 1) := by decide +kernel
theorem dX10_about_0 : decode cX10_about 0 = .ok (.aload_n 0, 1) := by decide +kernel
theorem dX10_about_1 : decode cX10_about 1 = .ok (.iconst 0, 1) := by decide +kernel
theorem dX10_about_2 : decode cX10_about 2 = .ok (.putfield 93, 3) := by decide +kernel
theorem dX10_about_5 : decode cX10_about 5 = .ok (.aload_n 0, 1) := by decide +kernel
theorem dX10_about_6 : decode cX10_about 6 = .ok (.iload_n 1, 1) := by decide +kernel
theorem dX10_about_7 : decode cX10_about 7 = .ok (.invokevirtual 125, 3) := by decide +kernel
theorem dX10_about_10 : decode cX10_about 10 = .ok (.ifCond .eq 5, 3) := by decide +kernel
theorem dX10_about_13 : decode cX10_about 13 = .ok (.iconst (-1), 1) := by decide +kernel
theorem dX10_about_14 : decode cX10_about 14 = .ok (.ireturn, 1) := by decide +kernel
theorem dX10_about_15 : decode cX10_about 15 = .ok (.iload_n 2, 1) := by decide +kernel
theorem dX10_about_16 : decode cX10_about 16 = .ok (.ifCond .ne 12, 3) := by decide +kernel
theorem dX10_about_19 : decode cX10_about 19 = .ok (.aload_n 0, 1) := by decide +kernel
theorem dX10_about_20 : decode cX10_about 20 = .ok (.getfield 16, 3) := by decide +kernel
theorem dX10_about_23 : decode cX10_about 23 = .ok (.iload_n 1, 1) := by decide +kernel
theorem dX10_about_24 : decode cX10_about 24 = .ok (.iaload, 1) := by decide +kernel
theorem dX10_about_25 : decode cX10_about 25 = .ok (.goto 41, 3) := by decide +kernel
theorem dX10_about_28 : decode cX10_about 28 = .ok (.iload_n 2, 1) := by decide +kernel
theorem dX10_about_29 : decode cX10_about 29 = .ok (.iconst 1, 1) := by decide +kernel
theorem dX10_about_30 : decode cX10_about 30 = .ok (.if_icmp .ne 12, 3) := by decide +kernel
theorem dX10_about_33 : decode cX10_about 33 = .ok (.aload_n 0, 1) := by decide +kernel
theorem dX10_about_34 : decode cX10_about 34 = .ok (.getfield 19, 3) := by decide +kernel
theorem dX10_about_37 : decode cX10_about 37 = .ok (.iload_n 1, 1) := by decide +kernel
theorem dX10_about_38 : decode cX10_about 38 = .ok (.iaload, 1) := by decide +kernel
theorem dX10_about_39 : decode cX10_about 39 = .ok (.goto 27, 3) := by decide +kernel
theorem dX10_about_42 : decode cX10_about 42 = .ok (.iload_n 2, 1) := by decide +kernel
theorem dX10_about_43 : decode cX10_about 43 = .ok (.iconst 2, 1) := by decide +kernel
theorem dX10_about_44 : decode cX10_about 44 = .ok (.if_icmp .ne 20, 3) := by decide +kernel
theorem dX10_about_47 : decode cX10_about 47 = .ok (.aload_n 0, 1) := by decide +kernel
theorem dX10_about_48 : decode cX10_about 48 = .ok (.getfield 22, 3) := by decide +kernel
theorem dX10_about_51 : decode cX10_about 51 = .ok (.iload_n 1, 1) := by decide +kernel
theorem dX10_about_52 : decode cX10_about 52 = .ok (.baload, 1) := by decide +kernel
theorem dX10_about_53 : decode cX10_about 53 = .ok (.ifCond .eq 7, 3) := by decide +kernel
theorem dX10_about_56 : decode cX10_about 56 = .ok (.iconst 1, 1) := by decide +kernel
theorem dX10_about_57 : decode cX10_about 57 = .ok (.goto 9, 3) := by decide +kernel
theorem dX10_about_60 : decode cX10_about 60 = .ok (.iconst 0, 1) := by decide +kernel
theorem dX10_about_61 : decode cX10_about 61 = .ok (.goto 5, 3) := by decide +kernel
theorem dX10_about_64 : decode cX10_about 64 = .ok (.bipush (-2), 2) := by decide +kernel
theorem dX10_about_66 : decode cX10_about 66 = .ok (.ireturn, 1) := by decide +kernel
theorem dX10_add_0 : decode cX10_add 0 = .ok (.aload_n 0, 1) := by decide +kernel
theorem dX10_add_1 : decode cX10_add 1 = .ok (.getfield 33, 3) := by decide +kernel
theorem dX10_add_4 : decode cX10_add 4 = .ok (.aload_n 0, 1) := by decide +kernel
theorem dX10_add_5 : decode cX10_add 5 = .ok (.getfield 109, 3) := by decide +kernel
theorem dX10_add_8 : decode cX10_add 8 = .ok (.iload_n 1, 1) := by decide +kernel
theorem dX10_add_9 : decode cX10_add 9 = .ok (.iastore, 1) := by decide +kernel
theorem dX10_add_10 : decode cX10_add 10 = .ok (.aload_n 0, 1) := by decide +kernel
theorem dX10_add_11 : decode cX10_add 11 = .ok (.getfield 36, 3) := by decide +kernel
theorem dX10_add_14 : decode cX10_add 14 = .ok (.aload_n 0, 1) := by decide +kernel
theorem dX10_add_15 : decode cX10_add 15 = .ok (.getfield 109, 3) := by decide +kernel
theorem dX10_add_18 : decode cX10_add 18 = .ok (.iload_n 2, 1) := by decide +kernel
theorem dX10_add_19 : decode cX10_add 19 = .ok (.iastore, 1) := by decide +kernel
theorem dX10_add_20 : decode cX10_add 20 = .ok (.aload_n 0, 1) := by decide +kernel
theorem dX10_add_21 : decode cX10_add 21 = .ok (.getfield 39, 3) := by decide +kernel
theorem dX10_add_24 : decode cX10_add 24 = .ok (.aload_n 0, 1) := by decide +kernel
theorem dX10_add_25 : decode cX10_add 25 = .ok (.getfield 109, 3) := by decide +kernel
theorem dX10_add_28 : decode cX10_add 28 = .ok (.iload_n 3, 1) := by decide +kernel
theorem dX10_add_29 : decode cX10_add 29 = .ok (.iastore, 1) := by decide +kernel
theorem dX10_add_30 : decode cX10_add 30 = .ok (.aload_n 0, 1) := by decide +kernel
theorem dX10_add_31 : decode cX10_add 31 = .ok (.getfield 42, 3) := by decide +kernel
theorem dX10_add_34 : decode cX10_add 34 = .ok (.aload_n 0, 1) := by decide +kernel
theorem dX10_add_35 : decode cX10_add 35 = .ok (.getfield 109, 3) := by decide +kernel
theorem dX10_add_38 : decode cX10_add 38 = .ok (.iload 4, 2) := by decide +kernel
theorem dX10_add_40 : decode cX10_add 40 = .ok (.iastore, 1) := by decide +kernel
theorem dX10_add_41 : decode cX10_add 41 = .ok (.aload_n 0, 1) := by decide +kernel
theorem dX10_add_42 : decode cX10_add 42 = .ok (.getfield 45, 3) := by decide +kernel
theorem dX10_add_45 : decode cX10_add 45 = .ok (.aload_n 0, 1) := by decide +kernel
theorem dX10_add_46 : decode cX10_add 46 = .ok (.getfield 109, 3) := by decide +kernel
theorem dX10_add_49 : decode cX10_add 49 = .ok (.iload 5, 2) := by decide +kernel
theorem dX10_add_51 : decode cX10_add 51 = .ok (.iastore, 1) := by decide +kernel
theorem dX10_add_52 : decode cX10_add 52 = .ok (.aload_n 0, 1) := by decide +kernel
theorem dX10_add_53 : decode cX10_add 53 = .ok (.getfield 48, 3) := by decide +kernel
theorem dX10_add_56 : decode cX10_add 56 = .ok (.aload_n 0, 1) := by decide +kernel
theorem dX10_add_57 : decode cX10_add 57 = .ok (.getfield 109, 3) := by decide +kernel
theorem dX10_add_60 : decode cX10_add 60 = .ok (.lload 6, 2) := by decide +kernel
theorem dX10_add_62 : decode cX10_add 62 = .ok (.lastore, 1) := by decide +kernel
theorem dX10_add_63 : decode cX10_add 63 = .ok (.aload_n 0, 1) := by decide +kernel
theorem dX10_add_64 : decode cX10_add 64 = .ok (.getfield 51, 3) := by decide +kernel
theorem dX10_add_67 : decode cX10_add 67 = .ok (.aload_n 0, 1) := by decide +kernel
theorem dX10_add_68 : decode cX10_add 68 = .ok (.getfield 109, 3) := by decide +kernel
theorem dX10_add_71 : decode cX10_add 71 = .ok (.lload 8, 2) := by decide +kernel
theorem dX10_add_73 : decode cX10_add 73 = .ok (.lastore, 1) := by decide +kernel
theorem dX10_add_74 : decode cX10_add 74 = .ok (.aload_n 0, 1) := by decide +kernel
theorem dX10_add_75 : decode cX10_add 75 = .ok (.getfield 54, 3) := by decide +kernel
theorem dX10_add_78 : decode cX10_add 78 = .ok (.aload_n 0, 1) := by decide +kernel
theorem dX10_add_79 : decode cX10_add 79 = .ok (.getfield 109, 3) := by decide +kernel
theorem dX10_add_82 : decode cX10_add 82 = .ok (.iconst 1, 1) := by decide +kernel
theorem dX10_add_83 : decode cX10_add 83 = .ok (.bastore, 1) := by decide +kernel
theorem dX10_add_84 : decode cX10_add 84 = .ok (.aload_n 0, 1) := by decide +kernel
theorem dX10_add_85 : decode cX10_add 85 = .ok (.dup, 1) := by decide +kernel
theorem dX10_add_86 : decode cX10_add 86 = .ok (.getfield 109, 3) := by decide +kernel
theorem dX10_add_89 : decode cX10_add 89 = .ok (.iconst 1, 1) := by decide +kernel
theorem dX10_add_90 : decode cX10_add 90 = .ok (.iadd, 1) := by decide +kernel
theorem dX10_add_91 : decode cX10_add 91 = .ok (.putfield 109, 3) := by decide +kernel
theorem dX10_add_94 : decode cX10_add 94 = .ok (.aload_n 0, 1) := by decide +kernel
theorem dX10_add_95 : decode cX10_add 95 = .ok (.iconst 0, 1) := by decide +kernel
theorem dX10_add_96 : decode cX10_add 96 = .ok (.putfield 121, 3) := by decide +kernel
theorem dX10_add_99 : decode cX10_add 99 = .ok (.aload_n 0, 1) := by decide +kernel
theorem dX10_add_100 : decode cX10_add 100 = .ok (.getfield 109, 3) := by decide +kernel
theorem dX10_add_103 : decode cX10_add 103 = .ok (.iconst 1, 1) := by decide +kernel
theorem dX10_add_104 : decode cX10_add 104 = .ok (.isub, 1) := by decide +kernel
theorem dX10_add_105 : decode cX10_add 105 = .ok (.ireturn, 1) := by decide +kernel
theorem dX10_law_0 : decode cX10_law 0 = .ok (.aload_n 0, 1) := by decide +kernel
theorem dX10_law_1 : decode cX10_law 1 = .ok (.iconst 0, 1) := by decide +kernel
theorem dX10_law_2 : decode cX10_law 2 = .ok (.putfield 93, 3) := by decide +kernel
theorem dX10_law_5 : decode cX10_law 5 = .ok (.iload_n 1, 1) := by decide +kernel
theorem dX10_law_6 : decode cX10_law 6 = .ok (.i2l, 1) := by decide +kernel
theorem dX10_law_7 : decode cX10_law 7 = .ok (.lconst 0, 1) := by decide +kernel
theorem dX10_law_8 : decode cX10_law 8 = .ok (.ldc2_w 141, 3) := by decide +kernel
theorem dX10_law_11 : decode cX10_law 11 = .ok (.invokestatic 102, 3) := by decide +kernel
theorem dX10_law_14 : decode cX10_law 14 = .ok (.ifCond .eq 15, 3) := by decide +kernel
theorem dX10_law_17 : decode cX10_law 17 = .ok (.iload_n 1, 1) := by decide +kernel
theorem dX10_law_18 : decode cX10_law 18 = .ok (.iconst 4, 1) := by decide +kernel
theorem dX10_law_19 : decode cX10_law 19 = .ok (.if_icmp .ne 13, 3) := by decide +kernel
theorem dX10_law_22 : decode cX10_law 22 = .ok (.lload 5, 2) := by decide +kernel
theorem dX10_law_24 : decode cX10_law 24 = .ok (.lconst 0, 1) := by decide +kernel
theorem dX10_law_25 : decode cX10_law 25 = .ok (.lcmp, 1) := by decide +kernel
theorem dX10_law_26 : decode cX10_law 26 = .ok (.ifCond .ge 6, 3) := by decide +kernel
theorem dX10_law_29 : decode cX10_law 29 = .ok (.bipush (-2), 2) := by decide +kernel
theorem dX10_law_31 : decode cX10_law 31 = .ok (.ireturn, 1) := by decide +kernel
theorem dX10_law_32 : decode cX10_law 32 = .ok (.aload_n 0, 1) := by decide +kernel
theorem dX10_law_33 : decode cX10_law 33 = .ok (.getfield 109, 3) := by decide +kernel
theorem dX10_law_36 : decode cX10_law 36 = .ok (.bipush 10, 2) := by decide +kernel
theorem dX10_law_38 : decode cX10_law 38 = .ok (.if_icmp .ne 6, 3) := by decide +kernel
theorem dX10_law_41 : decode cX10_law 41 = .ok (.bipush (-4), 2) := by decide +kernel
theorem dX10_law_43 : decode cX10_law 43 = .ok (.ireturn, 1) := by decide +kernel
theorem dX10_law_44 : decode cX10_law 44 = .ok (.aload_n 0, 1) := by decide +kernel
theorem dX10_law_45 : decode cX10_law 45 = .ok (.iload_n 2, 1) := by decide +kernel
theorem dX10_law_46 : decode cX10_law 46 = .ok (.invokevirtual 116, 3) := by decide +kernel
theorem dX10_law_49 : decode cX10_law 49 = .ok (.ifCond .eq 13, 3) := by decide +kernel
theorem dX10_law_52 : decode cX10_law 52 = .ok (.aload_n 0, 1) := by decide +kernel
theorem dX10_law_53 : decode cX10_law 53 = .ok (.aload_n 0, 1) := by decide +kernel
theorem dX10_law_54 : decode cX10_law 54 = .ok (.iload_n 2, 1) := by decide +kernel
theorem dX10_law_55 : decode cX10_law 55 = .ok (.invokevirtual 116, 3) := by decide +kernel
theorem dX10_law_58 : decode cX10_law 58 = .ok (.invokevirtual 112, 3) := by decide +kernel
theorem dX10_law_61 : decode cX10_law 61 = .ok (.ireturn, 1) := by decide +kernel
theorem dX10_law_62 : decode cX10_law 62 = .ok (.aload_n 0, 1) := by decide +kernel
theorem dX10_law_63 : decode cX10_law 63 = .ok (.iload_n 2, 1) := by decide +kernel
theorem dX10_law_64 : decode cX10_law 64 = .ok (.iload_n 3, 1) := by decide +kernel
theorem dX10_law_65 : decode cX10_law 65 = .ok (.invokevirtual 129, 3) := by decide +kernel
theorem dX10_law_68 : decode cX10_law 68 = .ok (.ifCond .ne 27, 3) := by decide +kernel
theorem dX10_law_71 : decode cX10_law 71 = .ok (.iload_n 1, 1) := by decide +kernel
theorem dX10_law_72 : decode cX10_law 72 = .ok (.ifCond .eq 13, 3) := by decide +kernel
theorem dX10_law_75 : decode cX10_law 75 = .ok (.iload_n 1, 1) := by decide +kernel
theorem dX10_law_76 : decode cX10_law 76 = .ok (.iconst 2, 1) := by decide +kernel
theorem dX10_law_77 : decode cX10_law 77 = .ok (.if_icmp .eq 8, 3) := by decide +kernel
theorem dX10_law_80 : decode cX10_law 80 = .ok (.iload_n 1, 1) := by decide +kernel
theorem dX10_law_81 : decode cX10_law 81 = .ok (.iconst 4, 1) := by decide +kernel
theorem dX10_law_82 : decode cX10_law 82 = .ok (.if_icmp .ne 20, 3) := by decide +kernel
theorem dX10_law_85 : decode cX10_law 85 = .ok (.aload_n 0, 1) := by decide +kernel
theorem dX10_law_86 : decode cX10_law 86 = .ok (.iload_n 2, 1) := by decide +kernel
theorem dX10_law_87 : decode cX10_law 87 = .ok (.iload 4, 2) := by decide +kernel
theorem dX10_law_89 : decode cX10_law 89 = .ok (.invokevirtual 129, 3) := by decide +kernel
theorem dX10_law_92 : decode cX10_law 92 = .ok (.ifCond .eq 10, 3) := by decide +kernel
theorem dX10_law_95 : decode cX10_law 95 = .ok (.aload_n 0, 1) := by decide +kernel
theorem dX10_law_96 : decode cX10_law 96 = .ok (.bipush (-12), 2) := by decide +kernel
theorem dX10_law_98 : decode cX10_law 98 = .ok (.invokevirtual 112, 3) := by decide +kernel
theorem dX10_law_101 : decode cX10_law 101 = .ok (.ireturn, 1) := by decide +kernel
theorem dX10_law_102 : decode cX10_law 102 = .ok (.aload_n 0, 1) := by decide +kernel
theorem dX10_law_103 : decode cX10_law 103 = .ok (.iload_n 1, 1) := by decide +kernel
theorem dX10_law_104 : decode cX10_law 104 = .ok (.iload_n 2, 1) := by decide +kernel
theorem dX10_law_105 : decode cX10_law 105 = .ok (.iload_n 3, 1) := by decide +kernel
theorem dX10_law_106 : decode cX10_law 106 = .ok (.iload 4, 2) := by decide +kernel
theorem dX10_law_108 : decode cX10_law 108 = .ok (.iconst 0, 1) := by decide +kernel
theorem dX10_law_109 : decode cX10_law 109 = .ok (.lload 5, 2) := by decide +kernel
theorem dX10_law_111 : decode cX10_law 111 = .ok (.lload 7, 2) := by decide +kernel
theorem dX10_law_113 : decode cX10_law 113 = .ok (.invokevirtual 143, 3) := by decide +kernel
theorem dX10_law_116 : decode cX10_law 116 = .ok (.ireturn, 1) := by decide +kernel
theorem dX10_among_0 : decode cX10_among 0 = .ok (.aload_n 0, 1) := by decide +kernel
theorem dX10_among_1 : decode cX10_among 1 = .ok (.iconst 0, 1) := by decide +kernel
theorem dX10_among_2 : decode cX10_among 2 = .ok (.putfield 93, 3) := by decide +kernel
theorem dX10_among_5 : decode cX10_among 5 = .ok (.aload_n 0, 1) := by decide +kernel
theorem dX10_among_6 : decode cX10_among 6 = .ok (.getfield 109, 3) := by decide +kernel
theorem dX10_among_9 : decode cX10_among 9 = .ok (.bipush 10, 2) := by decide +kernel
theorem dX10_among_11 : decode cX10_among 11 = .ok (.if_icmp .ne 6, 3) := by decide +kernel
theorem dX10_among_14 : decode cX10_among 14 = .ok (.bipush (-4), 2) := by decide +kernel
theorem dX10_among_16 : decode cX10_among 16 = .ok (.ireturn, 1) := by decide +kernel
theorem dX10_among_17 : decode cX10_among 17 = .ok (.aload_n 0, 1) := by decide +kernel
theorem dX10_among_18 : decode cX10_among 18 = .ok (.iload_n 1, 1) := by decide +kernel
theorem dX10_among_19 : decode cX10_among 19 = .ok (.invokevirtual 116, 3) := by decide +kernel
theorem dX10_among_22 : decode cX10_among 22 = .ok (.ifCond .eq 13, 3) := by decide +kernel
theorem dX10_among_25 : decode cX10_among 25 = .ok (.aload_n 0, 1) := by decide +kernel
theorem dX10_among_26 : decode cX10_among 26 = .ok (.aload_n 0, 1) := by decide +kernel
theorem dX10_among_27 : decode cX10_among 27 = .ok (.iload_n 1, 1) := by decide +kernel
theorem dX10_among_28 : decode cX10_among 28 = .ok (.invokevirtual 116, 3) := by decide +kernel
theorem dX10_among_31 : decode cX10_among 31 = .ok (.invokevirtual 112, 3) := by decide +kernel
theorem dX10_among_34 : decode cX10_among 34 = .ok (.ireturn, 1) := by decide +kernel
theorem dX10_among_35 : decode cX10_among 35 = .ok (.aload_n 0, 1) := by decide +kernel
theorem dX10_among_36 : decode cX10_among 36 = .ok (.iload_n 1, 1) := by decide +kernel
theorem dX10_among_37 : decode cX10_among 37 = .ok (.iload_n 2, 1) := by decide +kernel
theorem dX10_among_38 : decode cX10_among 38 = .ok (.invokevirtual 129, 3) := by decide +kernel
theorem dX10_among_41 : decode cX10_among 41 = .ok (.ifCond .eq 10, 3) := by decide +kernel
theorem dX10_among_44 : decode cX10_among 44 = .ok (.aload_n 0, 1) := by decide +kernel
theorem dX10_among_45 : decode cX10_among 45 = .ok (.bipush (-12), 2) := by decide +kernel
theorem dX10_among_47 : decode cX10_among 47 = .ok (.invokevirtual 112, 3) := by decide +kernel
theorem dX10_among_50 : decode cX10_among 50 = .ok (.ireturn, 1) := by decide +kernel
theorem dX10_among_51 : decode cX10_among 51 = .ok (.aload_n 0, 1) := by decide +kernel
theorem dX10_among_52 : decode cX10_among 52 = .ok (.iload_n 3, 1) := by decide +kernel
theorem dX10_among_53 : decode cX10_among 53 = .ok (.invokevirtual 116, 3) := by decide +kernel
theorem dX10_among_56 : decode cX10_among 56 = .ok (.ifCond .eq 13, 3) := by decide +kernel
theorem dX10_among_59 : decode cX10_among 59 = .ok (.aload_n 0, 1) := by decide +kernel
theorem dX10_among_60 : decode cX10_among 60 = .ok (.aload_n 0, 1) := by decide +kernel
theorem dX10_among_61 : decode cX10_among 61 = .ok (.iload_n 3, 1) := by decide +kernel
theorem dX10_among_62 : decode cX10_among 62 = .ok (.invokevirtual 116, 3) := by decide +kernel
theorem dX10_among_65 : decode cX10_among 65 = .ok (.invokevirtual 112, 3) := by decide +kernel
theorem dX10_among_68 : decode cX10_among 68 = .ok (.ireturn, 1) := by decide +kernel
theorem dX10_among_69 : decode cX10_among 69 = .ok (.aload_n 0, 1) := by decide +kernel
theorem dX10_among_70 : decode cX10_among 70 = .ok (.iload_n 3, 1) := by decide +kernel
theorem dX10_among_71 : decode cX10_among 71 = .ok (.iload 4, 2) := by decide +kernel
theorem dX10_among_73 : decode cX10_among 73 = .ok (.invokevirtual 129, 3) := by decide +kernel
theorem dX10_among_76 : decode cX10_among 76 = .ok (.ifCond .eq 10, 3) := by decide +kernel
theorem dX10_among_79 : decode cX10_among 79 = .ok (.aload_n 0, 1) := by decide +kernel
theorem dX10_among_80 : decode cX10_among 80 = .ok (.bipush (-12), 2) := by decide +kernel
theorem dX10_among_82 : decode cX10_among 82 = .ok (.invokevirtual 112, 3) := by decide +kernel
theorem dX10_among_85 : decode cX10_among 85 = .ok (.ireturn, 1) := by decide +kernel
theorem dX10_among_86 : decode cX10_among 86 = .ok (.aload_n 0, 1) := by decide +kernel
theorem dX10_among_87 : decode cX10_among 87 = .ok (.iconst 5, 1) := by decide +kernel
theorem dX10_among_88 : decode cX10_among 88 = .ok (.iload_n 1, 1) := by decide +kernel
theorem dX10_among_89 : decode cX10_among 89 = .ok (.iload_n 2, 1) := by decide +kernel
theorem dX10_among_90 : decode cX10_among 90 = .ok (.iload 4, 2) := by decide +kernel
theorem dX10_among_92 : decode cX10_among 92 = .ok (.iload_n 3, 1) := by decide +kernel
theorem dX10_among_93 : decode cX10_among 93 = .ok (.lconst 0, 1) := by decide +kernel
theorem dX10_among_94 : decode cX10_among 94 = .ok (.lconst 0, 1) := by decide +kernel
theorem dX10_among_95 : decode cX10_among 95 = .ok (.invokevirtual 143, 3) := by decide +kernel
theorem dX10_among_98 : decode cX10_among 98 = .ok (.ireturn, 1) := by decide +kernel
theorem dX10_force_0 : decode cX10_force 0 = .ok (.aload_n 0, 1) := by decide +kernel
theorem dX10_force_1 : decode cX10_force 1 = .ok (.iconst 0, 1) := by decide +kernel
theorem dX10_force_2 : decode cX10_force 2 = .ok (.putfield 93, 3) := by decide +kernel
theorem dX10_force_5 : decode cX10_force 5 = .ok (.aload_n 0, 1) := by decide +kernel
theorem dX10_force_6 : decode cX10_force 6 = .ok (.iload_n 1, 1) := by decide +kernel
theorem dX10_force_7 : decode cX10_force 7 = .ok (.invokevirtual 147, 3) := by decide +kernel
theorem dX10_force_10 : decode cX10_force 10 = .ok (.ifCond .eq 5, 3) := by decide +kernel
theorem dX10_force_13 : decode cX10_force 13 = .ok (.iconst (-1), 1) := by decide +kernel
theorem dX10_force_14 : decode cX10_force 14 = .ok (.ireturn, 1) := by decide +kernel
theorem dX10_force_15 : decode cX10_force 15 = .ok (.aload_n 0, 1) := by decide +kernel
theorem dX10_force_16 : decode cX10_force 16 = .ok (.getfield 54, 3) := by decide +kernel
theorem dX10_force_19 : decode cX10_force 19 = .ok (.iload_n 1, 1) := by decide +kernel
theorem dX10_force_20 : decode cX10_force 20 = .ok (.baload, 1) := by decide +kernel
theorem dX10_force_21 : decode cX10_force 21 = .ok (.ifCond .eq 7, 3) := by decide +kernel
theorem dX10_force_24 : decode cX10_force 24 = .ok (.iconst 1, 1) := by decide +kernel
theorem dX10_force_25 : decode cX10_force 25 = .ok (.goto 4, 3) := by decide +kernel
theorem dX10_force_28 : decode cX10_force 28 = .ok (.iconst 0, 1) := by decide +kernel
theorem dX10_force_29 : decode cX10_force 29 = .ok (.istore_n 3, 1) := by decide +kernel
theorem dX10_force_30 : decode cX10_force 30 = .ok (.aload_n 0, 1) := by decide +kernel
theorem dX10_force_31 : decode cX10_force 31 = .ok (.getfield 54, 3) := by decide +kernel
theorem dX10_force_34 : decode cX10_force 34 = .ok (.iload_n 1, 1) := by decide +kernel
theorem dX10_force_35 : decode cX10_force 35 = .ok (.iload_n 2, 1) := by decide +kernel
theorem dX10_force_36 : decode cX10_force 36 = .ok (.bastore, 1) := by decide +kernel
theorem dX10_force_37 : decode cX10_force 37 = .ok (.aload_n 0, 1) := by decide +kernel
theorem dX10_force_38 : decode cX10_force 38 = .ok (.iconst 0, 1) := by decide +kernel
theorem dX10_force_39 : decode cX10_force 39 = .ok (.putfield 121, 3) := by decide +kernel
theorem dX10_force_42 : decode cX10_force 42 = .ok (.iload_n 3, 1) := by decide +kernel
theorem dX10_force_43 : decode cX10_force 43 = .ok (.ireturn, 1) := by decide +kernel
theorem dX10_most_0 : decode cX10_most 0 = .ok (.aload_n 0, 1) := by decide +kernel
theorem dX10_most_1 : decode cX10_most 1 = .ok (.iconst 0, 1) := by decide +kernel
theorem dX10_most_2 : decode cX10_most 2 = .ok (.putfield 93, 3) := by decide +kernel
theorem dX10_most_5 : decode cX10_most 5 = .ok (.aload_n 0, 1) := by decide +kernel
theorem dX10_most_6 : decode cX10_most 6 = .ok (.iload_n 1, 1) := by decide +kernel
theorem dX10_most_7 : decode cX10_most 7 = .ok (.invokevirtual 147, 3) := by decide +kernel
theorem dX10_most_10 : decode cX10_most 10 = .ok (.ifCond .eq 9, 3) := by decide +kernel
theorem dX10_most_13 : decode cX10_most 13 = .ok (.ldc2_w 137, 3) := by decide +kernel
theorem dX10_most_16 : decode cX10_most 16 = .ok (.goto 29, 3) := by decide +kernel
theorem dX10_most_19 : decode cX10_most 19 = .ok (.aload_n 0, 1) := by decide +kernel
theorem dX10_most_20 : decode cX10_most 20 = .ok (.getfield 33, 3) := by decide +kernel
theorem dX10_most_23 : decode cX10_most 23 = .ok (.iload_n 1, 1) := by decide +kernel
theorem dX10_most_24 : decode cX10_most 24 = .ok (.iaload, 1) := by decide +kernel
theorem dX10_most_25 : decode cX10_most 25 = .ok (.iconst 4, 1) := by decide +kernel
theorem dX10_most_26 : decode cX10_most 26 = .ok (.if_icmp .ne 12, 3) := by decide +kernel
theorem dX10_most_29 : decode cX10_most 29 = .ok (.aload_n 0, 1) := by decide +kernel
theorem dX10_most_30 : decode cX10_most 30 = .ok (.getfield 48, 3) := by decide +kernel
theorem dX10_most_33 : decode cX10_most 33 = .ok (.iload_n 1, 1) := by decide +kernel
theorem dX10_most_34 : decode cX10_most 34 = .ok (.laload, 1) := by decide +kernel
theorem dX10_most_35 : decode cX10_most 35 = .ok (.goto 10, 3) := by decide +kernel
theorem dX10_most_38 : decode cX10_most 38 = .ok (.aload_n 0, 1) := by decide +kernel
theorem dX10_most_39 : decode cX10_most 39 = .ok (.bipush (-13), 2) := by decide +kernel
theorem dX10_most_41 : decode cX10_most 41 = .ok (.invokevirtual 112, 3) := by decide +kernel
theorem dX10_most_44 : decode cX10_most 44 = .ok (.i2l, 1) := by decide +kernel
theorem dX10_most_45 : decode cX10_most 45 = .ok (.lreturn, 1) := by decide +kernel
theorem dX10_keptSet_0 : decode cX10_keptSet 0 = .ok (.iconst 0, 1) := by decide +kernel
theorem dX10_keptSet_1 : decode cX10_keptSet 1 = .ok (.istore_n 1, 1) := by decide +kernel
theorem dX10_keptSet_2 : decode cX10_keptSet 2 = .ok (.iconst 0, 1) := by decide +kernel
theorem dX10_keptSet_3 : decode cX10_keptSet 3 = .ok (.istore_n 2, 1) := by decide +kernel
theorem dX10_keptSet_4 : decode cX10_keptSet 4 = .ok (.iload_n 2, 1) := by decide +kernel
theorem dX10_keptSet_5 : decode cX10_keptSet 5 = .ok (.aload_n 0, 1) := by decide +kernel
theorem dX10_keptSet_6 : decode cX10_keptSet 6 = .ok (.getfield 106, 3) := by decide +kernel
theorem dX10_keptSet_9 : decode cX10_keptSet 9 = .ok (.if_icmp .ge 28, 3) := by decide +kernel
theorem dX10_keptSet_12 : decode cX10_keptSet 12 = .ok (.iload_n 1, 1) := by decide +kernel
theorem dX10_keptSet_13 : decode cX10_keptSet 13 = .ok (.aload_n 0, 1) := by decide +kernel
theorem dX10_keptSet_14 : decode cX10_keptSet 14 = .ok (.getfield 22, 3) := by decide +kernel
theorem dX10_keptSet_17 : decode cX10_keptSet 17 = .ok (.iload_n 2, 1) := by decide +kernel
theorem dX10_keptSet_18 : decode cX10_keptSet 18 = .ok (.baload, 1) := by decide +kernel
theorem dX10_keptSet_19 : decode cX10_keptSet 19 = .ok (.ifCond .eq 9, 3) := by decide +kernel
theorem dX10_keptSet_22 : decode cX10_keptSet 22 = .ok (.iconst 1, 1) := by decide +kernel
theorem dX10_keptSet_23 : decode cX10_keptSet 23 = .ok (.iload_n 2, 1) := by decide +kernel
theorem dX10_keptSet_24 : decode cX10_keptSet 24 = .ok (.ishl, 1) := by decide +kernel
theorem dX10_keptSet_25 : decode cX10_keptSet 25 = .ok (.goto 4, 3) := by decide +kernel
theorem dX10_keptSet_28 : decode cX10_keptSet 28 = .ok (.iconst 0, 1) := by decide +kernel
theorem dX10_keptSet_29 : decode cX10_keptSet 29 = .ok (.ior, 1) := by decide +kernel
theorem dX10_keptSet_30 : decode cX10_keptSet 30 = .ok (.istore_n 1, 1) := by decide +kernel
theorem dX10_keptSet_31 : decode cX10_keptSet 31 = .ok (.iinc 2 1, 3) := by decide +kernel
theorem dX10_keptSet_34 : decode cX10_keptSet 34 = .ok (.goto (-30), 3) := by decide +kernel
theorem dX10_keptSet_37 : decode cX10_keptSet 37 = .ok (.iload_n 1, 1) := by decide +kernel
theorem dX10_keptSet_38 : decode cX10_keptSet 38 = .ok (.ireturn, 1) := by decide +kernel
theorem dX10_isLike_0 : decode cX10_isLike 0 = .ok (.aload_n 0, 1) := by decide +kernel
theorem dX10_isLike_1 : decode cX10_isLike 1 = .ok (.getfield 26, 3) := by decide +kernel
theorem dX10_isLike_4 : decode cX10_isLike 4 = .ok (.bipush 6, 2) := by decide +kernel
theorem dX10_isLike_6 : decode cX10_isLike 6 = .ok (.iload_n 1, 1) := by decide +kernel
theorem dX10_isLike_7 : decode cX10_isLike 7 = .ok (.imul, 1) := by decide +kernel
theorem dX10_isLike_8 : decode cX10_isLike 8 = .ok (.iload_n 2, 1) := by decide +kernel
theorem dX10_isLike_9 : decode cX10_isLike 9 = .ok (.iadd, 1) := by decide +kernel
theorem dX10_isLike_10 : decode cX10_isLike 10 = .ok (.baload, 1) := by decide +kernel
theorem dX10_isLike_11 : decode cX10_isLike 11 = .ok (.ifCond .eq 49, 3) := by decide +kernel
theorem dX10_isLike_14 : decode cX10_isLike 14 = .ok (.aload_n 0, 1) := by decide +kernel
theorem dX10_isLike_15 : decode cX10_isLike 15 = .ok (.getfield 26, 3) := by decide +kernel
theorem dX10_isLike_18 : decode cX10_isLike 18 = .ok (.bipush 6, 2) := by decide +kernel
theorem dX10_isLike_20 : decode cX10_isLike 20 = .ok (.iload_n 3, 1) := by decide +kernel
theorem dX10_isLike_21 : decode cX10_isLike 21 = .ok (.imul, 1) := by decide +kernel
theorem dX10_isLike_22 : decode cX10_isLike 22 = .ok (.iload 4, 2) := by decide +kernel
theorem dX10_isLike_24 : decode cX10_isLike 24 = .ok (.iadd, 1) := by decide +kernel
theorem dX10_isLike_25 : decode cX10_isLike 25 = .ok (.baload, 1) := by decide +kernel
theorem dX10_isLike_26 : decode cX10_isLike 26 = .ok (.ifCond .eq 34, 3) := by decide +kernel
theorem dX10_isLike_29 : decode cX10_isLike 29 = .ok (.aload_n 0, 1) := by decide +kernel
theorem dX10_isLike_30 : decode cX10_isLike 30 = .ok (.getfield 29, 3) := by decide +kernel
theorem dX10_isLike_33 : decode cX10_isLike 33 = .ok (.bipush 6, 2) := by decide +kernel
theorem dX10_isLike_35 : decode cX10_isLike 35 = .ok (.iload_n 1, 1) := by decide +kernel
theorem dX10_isLike_36 : decode cX10_isLike 36 = .ok (.imul, 1) := by decide +kernel
theorem dX10_isLike_37 : decode cX10_isLike 37 = .ok (.iload_n 2, 1) := by decide +kernel
theorem dX10_isLike_38 : decode cX10_isLike 38 = .ok (.iadd, 1) := by decide +kernel
theorem dX10_isLike_39 : decode cX10_isLike 39 = .ok (.laload, 1) := by decide +kernel
theorem dX10_isLike_40 : decode cX10_isLike 40 = .ok (.aload_n 0, 1) := by decide +kernel
theorem dX10_isLike_41 : decode cX10_isLike 41 = .ok (.getfield 29, 3) := by decide +kernel
theorem dX10_isLike_44 : decode cX10_isLike 44 = .ok (.bipush 6, 2) := by decide +kernel
theorem dX10_isLike_46 : decode cX10_isLike 46 = .ok (.iload_n 3, 1) := by decide +kernel
theorem dX10_isLike_47 : decode cX10_isLike 47 = .ok (.imul, 1) := by decide +kernel
theorem dX10_isLike_48 : decode cX10_isLike 48 = .ok (.iload 4, 2) := by decide +kernel
theorem dX10_isLike_50 : decode cX10_isLike 50 = .ok (.iadd, 1) := by decide +kernel
theorem dX10_isLike_51 : decode cX10_isLike 51 = .ok (.laload, 1) := by decide +kernel
theorem dX10_isLike_52 : decode cX10_isLike 52 = .ok (.lcmp, 1) := by decide +kernel
theorem dX10_isLike_53 : decode cX10_isLike 53 = .ok (.ifCond .ne 7, 3) := by decide +kernel
theorem dX10_isLike_56 : decode cX10_isLike 56 = .ok (.iconst 1, 1) := by decide +kernel
theorem dX10_isLike_57 : decode cX10_isLike 57 = .ok (.goto 4, 3) := by decide +kernel
theorem dX10_isLike_60 : decode cX10_isLike 60 = .ok (.iconst 0, 1) := by decide +kernel
theorem dX10_isLike_61 : decode cX10_isLike 61 = .ok (.ireturn, 1) := by decide +kernel
theorem dX10_breakTwo_0 : decode cX10_breakTwo 0 = .ok (.aload_n 0, 1) := by decide +kernel
theorem dX10_breakTwo_1 : decode cX10_breakTwo 1 = .ok (.getfield 39, 3) := by decide +kernel
theorem dX10_breakTwo_4 : decode cX10_breakTwo 4 = .ok (.iload_n 1, 1) := by decide +kernel
theorem dX10_breakTwo_5 : decode cX10_breakTwo 5 = .ok (.iaload, 1) := by decide +kernel
theorem dX10_breakTwo_6 : decode cX10_breakTwo 6 = .ok (.istore 4, 2) := by decide +kernel
theorem dX10_breakTwo_8 : decode cX10_breakTwo 8 = .ok (.aload_n 0, 1) := by decide +kernel
theorem dX10_breakTwo_9 : decode cX10_breakTwo 9 = .ok (.getfield 42, 3) := by decide +kernel
theorem dX10_breakTwo_12 : decode cX10_breakTwo 12 = .ok (.iload_n 1, 1) := by decide +kernel
theorem dX10_breakTwo_13 : decode cX10_breakTwo 13 = .ok (.iaload, 1) := by decide +kernel
theorem dX10_breakTwo_14 : decode cX10_breakTwo 14 = .ok (.istore 5, 2) := by decide +kernel
theorem dX10_breakTwo_16 : decode cX10_breakTwo 16 = .ok (.aload_n 0, 1) := by decide +kernel
theorem dX10_breakTwo_17 : decode cX10_breakTwo 17 = .ok (.iload_n 2, 1) := by decide +kernel
theorem dX10_breakTwo_18 : decode cX10_breakTwo 18 = .ok (.iload 4, 2) := by decide +kernel
theorem dX10_breakTwo_20 : decode cX10_breakTwo 20 = .ok (.iload_n 3, 1) := by decide +kernel
theorem dX10_breakTwo_21 : decode cX10_breakTwo 21 = .ok (.iload 4, 2) := by decide +kernel
theorem dX10_breakTwo_23 : decode cX10_breakTwo 23 = .ok (.invokevirtual 150, 3) := by decide +kernel
theorem dX10_breakTwo_26 : decode cX10_breakTwo 26 = .ok (.ifCond .eq 33, 3) := by decide +kernel
theorem dX10_breakTwo_29 : decode cX10_breakTwo 29 = .ok (.aload_n 0, 1) := by decide +kernel
theorem dX10_breakTwo_30 : decode cX10_breakTwo 30 = .ok (.getfield 26, 3) := by decide +kernel
theorem dX10_breakTwo_33 : decode cX10_breakTwo 33 = .ok (.bipush 6, 2) := by decide +kernel
theorem dX10_breakTwo_35 : decode cX10_breakTwo 35 = .ok (.iload_n 2, 1) := by decide +kernel
theorem dX10_breakTwo_36 : decode cX10_breakTwo 36 = .ok (.imul, 1) := by decide +kernel
theorem dX10_breakTwo_37 : decode cX10_breakTwo 37 = .ok (.iload 5, 2) := by decide +kernel
theorem dX10_breakTwo_39 : decode cX10_breakTwo 39 = .ok (.iadd, 1) := by decide +kernel
theorem dX10_breakTwo_40 : decode cX10_breakTwo 40 = .ok (.baload, 1) := by decide +kernel
theorem dX10_breakTwo_41 : decode cX10_breakTwo 41 = .ok (.ifCond .eq 18, 3) := by decide +kernel
theorem dX10_breakTwo_44 : decode cX10_breakTwo 44 = .ok (.aload_n 0, 1) := by decide +kernel
theorem dX10_breakTwo_45 : decode cX10_breakTwo 45 = .ok (.getfield 26, 3) := by decide +kernel
theorem dX10_breakTwo_48 : decode cX10_breakTwo 48 = .ok (.bipush 6, 2) := by decide +kernel
theorem dX10_breakTwo_50 : decode cX10_breakTwo 50 = .ok (.iload_n 3, 1) := by decide +kernel
theorem dX10_breakTwo_51 : decode cX10_breakTwo 51 = .ok (.imul, 1) := by decide +kernel
theorem dX10_breakTwo_52 : decode cX10_breakTwo 52 = .ok (.iload 5, 2) := by decide +kernel
theorem dX10_breakTwo_54 : decode cX10_breakTwo 54 = .ok (.iadd, 1) := by decide +kernel
theorem dX10_breakTwo_55 : decode cX10_breakTwo 55 = .ok (.baload, 1) := by decide +kernel
theorem dX10_breakTwo_56 : decode cX10_breakTwo 56 = .ok (.ifCond .ne 5, 3) := by decide +kernel
theorem dX10_breakTwo_59 : decode cX10_breakTwo 59 = .ok (.iconst 0, 1) := by decide +kernel
theorem dX10_breakTwo_60 : decode cX10_breakTwo 60 = .ok (.ireturn, 1) := by decide +kernel
theorem dX10_breakTwo_61 : decode cX10_breakTwo 61 = .ok (.aload_n 0, 1) := by decide +kernel
theorem dX10_breakTwo_62 : decode cX10_breakTwo 62 = .ok (.getfield 29, 3) := by decide +kernel
theorem dX10_breakTwo_65 : decode cX10_breakTwo 65 = .ok (.bipush 6, 2) := by decide +kernel
theorem dX10_breakTwo_67 : decode cX10_breakTwo 67 = .ok (.iload_n 2, 1) := by decide +kernel
theorem dX10_breakTwo_68 : decode cX10_breakTwo 68 = .ok (.imul, 1) := by decide +kernel
theorem dX10_breakTwo_69 : decode cX10_breakTwo 69 = .ok (.iload 5, 2) := by decide +kernel
theorem dX10_breakTwo_71 : decode cX10_breakTwo 71 = .ok (.iadd, 1) := by decide +kernel
theorem dX10_breakTwo_72 : decode cX10_breakTwo 72 = .ok (.laload, 1) := by decide +kernel
theorem dX10_breakTwo_73 : decode cX10_breakTwo 73 = .ok (.lstore 6, 2) := by decide +kernel
theorem dX10_breakTwo_75 : decode cX10_breakTwo 75 = .ok (.aload_n 0, 1) := by decide +kernel
theorem dX10_breakTwo_76 : decode cX10_breakTwo 76 = .ok (.getfield 29, 3) := by decide +kernel
theorem dX10_breakTwo_79 : decode cX10_breakTwo 79 = .ok (.bipush 6, 2) := by decide +kernel
theorem dX10_breakTwo_81 : decode cX10_breakTwo 81 = .ok (.iload_n 3, 1) := by decide +kernel
theorem dX10_breakTwo_82 : decode cX10_breakTwo 82 = .ok (.imul, 1) := by decide +kernel
theorem dX10_breakTwo_83 : decode cX10_breakTwo 83 = .ok (.iload 5, 2) := by decide +kernel
theorem dX10_breakTwo_85 : decode cX10_breakTwo 85 = .ok (.iadd, 1) := by decide +kernel
theorem dX10_breakTwo_86 : decode cX10_breakTwo 86 = .ok (.laload, 1) := by decide +kernel
theorem dX10_breakTwo_87 : decode cX10_breakTwo 87 = .ok (.lstore 8, 2) := by decide +kernel
theorem dX10_breakTwo_89 : decode cX10_breakTwo 89 = .ok (.aload_n 0, 1) := by decide +kernel
theorem dX10_breakTwo_90 : decode cX10_breakTwo 90 = .ok (.getfield 33, 3) := by decide +kernel
theorem dX10_breakTwo_93 : decode cX10_breakTwo 93 = .ok (.iload_n 1, 1) := by decide +kernel
theorem dX10_breakTwo_94 : decode cX10_breakTwo 94 = .ok (.iaload, 1) := by decide +kernel
theorem dX10_breakTwo_95 : decode cX10_breakTwo 95 = .ok (.ifCond .ne 17, 3) := by decide +kernel
theorem dX10_breakTwo_98 : decode cX10_breakTwo 98 = .ok (.lload 6, 2) := by decide +kernel
theorem dX10_breakTwo_100 : decode cX10_breakTwo 100 = .ok (.lload 8, 2) := by decide +kernel
theorem dX10_breakTwo_102 : decode cX10_breakTwo 102 = .ok (.lcmp, 1) := by decide +kernel
theorem dX10_breakTwo_103 : decode cX10_breakTwo 103 = .ok (.ifCond .eq 7, 3) := by decide +kernel
theorem dX10_breakTwo_106 : decode cX10_breakTwo 106 = .ok (.iconst 1, 1) := by decide +kernel
theorem dX10_breakTwo_107 : decode cX10_breakTwo 107 = .ok (.goto 4, 3) := by decide +kernel
theorem dX10_breakTwo_110 : decode cX10_breakTwo 110 = .ok (.iconst 0, 1) := by decide +kernel
theorem dX10_breakTwo_111 : decode cX10_breakTwo 111 = .ok (.ireturn, 1) := by decide +kernel
theorem dX10_breakTwo_112 : decode cX10_breakTwo 112 = .ok (.lload 6, 2) := by decide +kernel
theorem dX10_breakTwo_114 : decode cX10_breakTwo 114 = .ok (.lload 8, 2) := by decide +kernel
theorem dX10_breakTwo_116 : decode cX10_breakTwo 116 = .ok (.lcmp, 1) := by decide +kernel
theorem dX10_breakTwo_117 : decode cX10_breakTwo 117 = .ok (.ifCond .le 11, 3) := by decide +kernel
theorem dX10_breakTwo_120 : decode cX10_breakTwo 120 = .ok (.lload 6, 2) := by decide +kernel
theorem dX10_breakTwo_122 : decode cX10_breakTwo 122 = .ok (.lload 8, 2) := by decide +kernel
theorem dX10_breakTwo_124 : decode cX10_breakTwo 124 = .ok (.lsub, 1) := by decide +kernel
theorem dX10_breakTwo_125 : decode cX10_breakTwo 125 = .ok (.goto 8, 3) := by decide +kernel
theorem dX10_breakTwo_128 : decode cX10_breakTwo 128 = .ok (.lload 8, 2) := by decide +kernel
theorem dX10_breakTwo_130 : decode cX10_breakTwo 130 = .ok (.lload 6, 2) := by decide +kernel
theorem dX10_breakTwo_132 : decode cX10_breakTwo 132 = .ok (.lsub, 1) := by decide +kernel
theorem dX10_breakTwo_133 : decode cX10_breakTwo 133 = .ok (.lstore 10, 2) := by decide +kernel
theorem dX10_breakTwo_135 : decode cX10_breakTwo 135 = .ok (.lload 10, 2) := by decide +kernel
theorem dX10_breakTwo_137 : decode cX10_breakTwo 137 = .ok (.lconst 0, 1) := by decide +kernel
theorem dX10_breakTwo_138 : decode cX10_breakTwo 138 = .ok (.lcmp, 1) := by decide +kernel
theorem dX10_breakTwo_139 : decode cX10_breakTwo 139 = .ok (.ifCond .lt 19, 3) := by decide +kernel
theorem dX10_breakTwo_142 : decode cX10_breakTwo 142 = .ok (.lload 10, 2) := by decide +kernel
theorem dX10_breakTwo_144 : decode cX10_breakTwo 144 = .ok (.aload_n 0, 1) := by decide +kernel
theorem dX10_breakTwo_145 : decode cX10_breakTwo 145 = .ok (.getfield 48, 3) := by decide +kernel
theorem dX10_breakTwo_148 : decode cX10_breakTwo 148 = .ok (.iload_n 1, 1) := by decide +kernel
theorem dX10_breakTwo_149 : decode cX10_breakTwo 149 = .ok (.laload, 1) := by decide +kernel
theorem dX10_breakTwo_150 : decode cX10_breakTwo 150 = .ok (.lcmp, 1) := by decide +kernel
theorem dX10_breakTwo_151 : decode cX10_breakTwo 151 = .ok (.ifCond .ge 7, 3) := by decide +kernel
theorem dX10_breakTwo_154 : decode cX10_breakTwo 154 = .ok (.iconst 1, 1) := by decide +kernel
theorem dX10_breakTwo_155 : decode cX10_breakTwo 155 = .ok (.goto 4, 3) := by decide +kernel
theorem dX10_breakTwo_158 : decode cX10_breakTwo 158 = .ok (.iconst 0, 1) := by decide +kernel
theorem dX10_breakTwo_159 : decode cX10_breakTwo 159 = .ok (.ireturn, 1) := by decide +kernel
theorem dX10_breakOne_0 : decode cX10_breakOne 0 = .ok (.bipush 6, 2) := by decide +kernel
theorem dX10_breakOne_2 : decode cX10_breakOne 2 = .ok (.iload_n 2, 1) := by decide +kernel
theorem dX10_breakOne_3 : decode cX10_breakOne 3 = .ok (.imul, 1) := by decide +kernel
theorem dX10_breakOne_4 : decode cX10_breakOne 4 = .ok (.aload_n 0, 1) := by decide +kernel
theorem dX10_breakOne_5 : decode cX10_breakOne 5 = .ok (.getfield 39, 3) := by decide +kernel
theorem dX10_breakOne_8 : decode cX10_breakOne 8 = .ok (.iload_n 1, 1) := by decide +kernel
theorem dX10_breakOne_9 : decode cX10_breakOne 9 = .ok (.iaload, 1) := by decide +kernel
theorem dX10_breakOne_10 : decode cX10_breakOne 10 = .ok (.iadd, 1) := by decide +kernel
theorem dX10_breakOne_11 : decode cX10_breakOne 11 = .ok (.istore 4, 2) := by decide +kernel
theorem dX10_breakOne_13 : decode cX10_breakOne 13 = .ok (.aload_n 0, 1) := by decide +kernel
theorem dX10_breakOne_14 : decode cX10_breakOne 14 = .ok (.getfield 33, 3) := by decide +kernel
theorem dX10_breakOne_17 : decode cX10_breakOne 17 = .ok (.iload_n 1, 1) := by decide +kernel
theorem dX10_breakOne_18 : decode cX10_breakOne 18 = .ok (.iaload, 1) := by decide +kernel
theorem dX10_breakOne_19 : decode cX10_breakOne 19 = .ok (.tableswitch 189 1 5 #[33, 189, 83, 189, 99], 33) := by decide +kernel
theorem dX10_breakOne_52 : decode cX10_breakOne 52 = .ok (.aload_n 0, 1) := by decide +kernel
theorem dX10_breakOne_53 : decode cX10_breakOne 53 = .ok (.getfield 26, 3) := by decide +kernel
theorem dX10_breakOne_56 : decode cX10_breakOne 56 = .ok (.iload 4, 2) := by decide +kernel
theorem dX10_breakOne_58 : decode cX10_breakOne 58 = .ok (.baload, 1) := by decide +kernel
theorem dX10_breakOne_59 : decode cX10_breakOne 59 = .ok (.ifCond .eq 41, 3) := by decide +kernel
theorem dX10_breakOne_62 : decode cX10_breakOne 62 = .ok (.aload_n 0, 1) := by decide +kernel
theorem dX10_breakOne_63 : decode cX10_breakOne 63 = .ok (.getfield 29, 3) := by decide +kernel
theorem dX10_breakOne_66 : decode cX10_breakOne 66 = .ok (.iload 4, 2) := by decide +kernel
theorem dX10_breakOne_68 : decode cX10_breakOne 68 = .ok (.laload, 1) := by decide +kernel
theorem dX10_breakOne_69 : decode cX10_breakOne 69 = .ok (.aload_n 0, 1) := by decide +kernel
theorem dX10_breakOne_70 : decode cX10_breakOne 70 = .ok (.getfield 48, 3) := by decide +kernel
theorem dX10_breakOne_73 : decode cX10_breakOne 73 = .ok (.iload_n 1, 1) := by decide +kernel
theorem dX10_breakOne_74 : decode cX10_breakOne 74 = .ok (.laload, 1) := by decide +kernel
theorem dX10_breakOne_75 : decode cX10_breakOne 75 = .ok (.lcmp, 1) := by decide +kernel
theorem dX10_breakOne_76 : decode cX10_breakOne 76 = .ok (.ifCond .lt 20, 3) := by decide +kernel
theorem dX10_breakOne_79 : decode cX10_breakOne 79 = .ok (.aload_n 0, 1) := by decide +kernel
theorem dX10_breakOne_80 : decode cX10_breakOne 80 = .ok (.getfield 29, 3) := by decide +kernel
theorem dX10_breakOne_83 : decode cX10_breakOne 83 = .ok (.iload 4, 2) := by decide +kernel
theorem dX10_breakOne_85 : decode cX10_breakOne 85 = .ok (.laload, 1) := by decide +kernel
theorem dX10_breakOne_86 : decode cX10_breakOne 86 = .ok (.aload_n 0, 1) := by decide +kernel
theorem dX10_breakOne_87 : decode cX10_breakOne 87 = .ok (.getfield 51, 3) := by decide +kernel
theorem dX10_breakOne_90 : decode cX10_breakOne 90 = .ok (.iload_n 1, 1) := by decide +kernel
theorem dX10_breakOne_91 : decode cX10_breakOne 91 = .ok (.laload, 1) := by decide +kernel
theorem dX10_breakOne_92 : decode cX10_breakOne 92 = .ok (.lcmp, 1) := by decide +kernel
theorem dX10_breakOne_93 : decode cX10_breakOne 93 = .ok (.ifCond .le 7, 3) := by decide +kernel
theorem dX10_breakOne_96 : decode cX10_breakOne 96 = .ok (.iconst 1, 1) := by decide +kernel
theorem dX10_breakOne_97 : decode cX10_breakOne 97 = .ok (.goto 4, 3) := by decide +kernel
theorem dX10_breakOne_100 : decode cX10_breakOne 100 = .ok (.iconst 0, 1) := by decide +kernel
theorem dX10_breakOne_101 : decode cX10_breakOne 101 = .ok (.ireturn, 1) := by decide +kernel
theorem dX10_breakOne_102 : decode cX10_breakOne 102 = .ok (.aload_n 0, 1) := by decide +kernel
theorem dX10_breakOne_103 : decode cX10_breakOne 103 = .ok (.getfield 26, 3) := by decide +kernel
theorem dX10_breakOne_106 : decode cX10_breakOne 106 = .ok (.iload 4, 2) := by decide +kernel
theorem dX10_breakOne_108 : decode cX10_breakOne 108 = .ok (.baload, 1) := by decide +kernel
theorem dX10_breakOne_109 : decode cX10_breakOne 109 = .ok (.ifCond .ne 7, 3) := by decide +kernel
theorem dX10_breakOne_112 : decode cX10_breakOne 112 = .ok (.iconst 1, 1) := by decide +kernel
theorem dX10_breakOne_113 : decode cX10_breakOne 113 = .ok (.goto 4, 3) := by decide +kernel
theorem dX10_breakOne_116 : decode cX10_breakOne 116 = .ok (.iconst 0, 1) := by decide +kernel
theorem dX10_breakOne_117 : decode cX10_breakOne 117 = .ok (.ireturn, 1) := by decide +kernel
theorem dX10_breakOne_118 : decode cX10_breakOne 118 = .ok (.aload_n 0, 1) := by decide +kernel
theorem dX10_breakOne_119 : decode cX10_breakOne 119 = .ok (.getfield 26, 3) := by decide +kernel
theorem dX10_breakOne_122 : decode cX10_breakOne 122 = .ok (.iload 4, 2) := by decide +kernel
theorem dX10_breakOne_124 : decode cX10_breakOne 124 = .ok (.baload, 1) := by decide +kernel
theorem dX10_breakOne_125 : decode cX10_breakOne 125 = .ok (.istore 5, 2) := by decide +kernel
theorem dX10_breakOne_127 : decode cX10_breakOne 127 = .ok (.iconst 0, 1) := by decide +kernel
theorem dX10_breakOne_128 : decode cX10_breakOne 128 = .ok (.istore 6, 2) := by decide +kernel
theorem dX10_breakOne_130 : decode cX10_breakOne 130 = .ok (.iload 6, 2) := by decide +kernel
theorem dX10_breakOne_132 : decode cX10_breakOne 132 = .ok (.aload_n 0, 1) := by decide +kernel
theorem dX10_breakOne_133 : decode cX10_breakOne 133 = .ok (.getfield 106, 3) := by decide +kernel
theorem dX10_breakOne_136 : decode cX10_breakOne 136 = .ok (.if_icmp .ge 69, 3) := by decide +kernel
theorem dX10_breakOne_139 : decode cX10_breakOne 139 = .ok (.iload 5, 2) := by decide +kernel
theorem dX10_breakOne_141 : decode cX10_breakOne 141 = .ok (.ifCond .eq 64, 3) := by decide +kernel
theorem dX10_breakOne_144 : decode cX10_breakOne 144 = .ok (.iload_n 3, 1) := by decide +kernel
theorem dX10_breakOne_145 : decode cX10_breakOne 145 = .ok (.iload 6, 2) := by decide +kernel
theorem dX10_breakOne_147 : decode cX10_breakOne 147 = .ok (.ishr, 1) := by decide +kernel
theorem dX10_breakOne_148 : decode cX10_breakOne 148 = .ok (.iconst 1, 1) := by decide +kernel
theorem dX10_breakOne_149 : decode cX10_breakOne 149 = .ok (.iand, 1) := by decide +kernel
theorem dX10_breakOne_150 : decode cX10_breakOne 150 = .ok (.iconst 1, 1) := by decide +kernel
theorem dX10_breakOne_151 : decode cX10_breakOne 151 = .ok (.if_icmp .ne 41, 3) := by decide +kernel
theorem dX10_breakOne_154 : decode cX10_breakOne 154 = .ok (.aload_n 0, 1) := by decide +kernel
theorem dX10_breakOne_155 : decode cX10_breakOne 155 = .ok (.getfield 16, 3) := by decide +kernel
theorem dX10_breakOne_158 : decode cX10_breakOne 158 = .ok (.iload 6, 2) := by decide +kernel
theorem dX10_breakOne_160 : decode cX10_breakOne 160 = .ok (.iaload, 1) := by decide +kernel
theorem dX10_breakOne_161 : decode cX10_breakOne 161 = .ok (.aload_n 0, 1) := by decide +kernel
theorem dX10_breakOne_162 : decode cX10_breakOne 162 = .ok (.getfield 45, 3) := by decide +kernel
theorem dX10_breakOne_165 : decode cX10_breakOne 165 = .ok (.iload_n 1, 1) := by decide +kernel
theorem dX10_breakOne_166 : decode cX10_breakOne 166 = .ok (.iaload, 1) := by decide +kernel
theorem dX10_breakOne_167 : decode cX10_breakOne 167 = .ok (.if_icmp .ne 25, 3) := by decide +kernel
theorem dX10_breakOne_170 : decode cX10_breakOne 170 = .ok (.aload_n 0, 1) := by decide +kernel
theorem dX10_breakOne_171 : decode cX10_breakOne 171 = .ok (.iload_n 2, 1) := by decide +kernel
theorem dX10_breakOne_172 : decode cX10_breakOne 172 = .ok (.aload_n 0, 1) := by decide +kernel
theorem dX10_breakOne_173 : decode cX10_breakOne 173 = .ok (.getfield 39, 3) := by decide +kernel
theorem dX10_breakOne_176 : decode cX10_breakOne 176 = .ok (.iload_n 1, 1) := by decide +kernel
theorem dX10_breakOne_177 : decode cX10_breakOne 177 = .ok (.iaload, 1) := by decide +kernel
theorem dX10_breakOne_178 : decode cX10_breakOne 178 = .ok (.iload 6, 2) := by decide +kernel
theorem dX10_breakOne_180 : decode cX10_breakOne 180 = .ok (.aload_n 0, 1) := by decide +kernel
theorem dX10_breakOne_181 : decode cX10_breakOne 181 = .ok (.getfield 42, 3) := by decide +kernel
theorem dX10_breakOne_184 : decode cX10_breakOne 184 = .ok (.iload_n 1, 1) := by decide +kernel
theorem dX10_breakOne_185 : decode cX10_breakOne 185 = .ok (.iaload, 1) := by decide +kernel
theorem dX10_breakOne_186 : decode cX10_breakOne 186 = .ok (.invokevirtual 150, 3) := by decide +kernel
theorem dX10_breakOne_189 : decode cX10_breakOne 189 = .ok (.ifCond .ne 7, 3) := by decide +kernel
theorem dX10_breakOne_192 : decode cX10_breakOne 192 = .ok (.iconst 1, 1) := by decide +kernel
theorem dX10_breakOne_193 : decode cX10_breakOne 193 = .ok (.goto 4, 3) := by decide +kernel
theorem dX10_breakOne_196 : decode cX10_breakOne 196 = .ok (.iconst 0, 1) := by decide +kernel
theorem dX10_breakOne_197 : decode cX10_breakOne 197 = .ok (.istore 5, 2) := by decide +kernel
theorem dX10_breakOne_199 : decode cX10_breakOne 199 = .ok (.iinc 6 1, 3) := by decide +kernel
theorem dX10_breakOne_202 : decode cX10_breakOne 202 = .ok (.goto (-72), 3) := by decide +kernel
theorem dX10_breakOne_205 : decode cX10_breakOne 205 = .ok (.iload 5, 2) := by decide +kernel
theorem dX10_breakOne_207 : decode cX10_breakOne 207 = .ok (.ireturn, 1) := by decide +kernel
theorem dX10_breakOne_208 : decode cX10_breakOne 208 = .ok (.iconst 0, 1) := by decide +kernel
theorem dX10_breakOne_209 : decode cX10_breakOne 209 = .ok (.ireturn, 1) := by decide +kernel
theorem dX10_isOf_0 : decode cX10_isOf 0 = .ok (.iload_n 3, 1) := by decide +kernel
theorem dX10_isOf_1 : decode cX10_isOf 1 = .ok (.iload_n 2, 1) := by decide +kernel
theorem dX10_isOf_2 : decode cX10_isOf 2 = .ok (.ishr, 1) := by decide +kernel
theorem dX10_isOf_3 : decode cX10_isOf 3 = .ok (.iconst 1, 1) := by decide +kernel
theorem dX10_isOf_4 : decode cX10_isOf 4 = .ok (.iand, 1) := by decide +kernel
theorem dX10_isOf_5 : decode cX10_isOf 5 = .ok (.iconst 1, 1) := by decide +kernel
theorem dX10_isOf_6 : decode cX10_isOf 6 = .ok (.if_icmp .ne 22, 3) := by decide +kernel
theorem dX10_isOf_9 : decode cX10_isOf 9 = .ok (.aload_n 0, 1) := by decide +kernel
theorem dX10_isOf_10 : decode cX10_isOf 10 = .ok (.getfield 16, 3) := by decide +kernel
theorem dX10_isOf_13 : decode cX10_isOf 13 = .ok (.iload_n 2, 1) := by decide +kernel
theorem dX10_isOf_14 : decode cX10_isOf 14 = .ok (.iaload, 1) := by decide +kernel
theorem dX10_isOf_15 : decode cX10_isOf 15 = .ok (.aload_n 0, 1) := by decide +kernel
theorem dX10_isOf_16 : decode cX10_isOf 16 = .ok (.getfield 36, 3) := by decide +kernel
theorem dX10_isOf_19 : decode cX10_isOf 19 = .ok (.iload_n 1, 1) := by decide +kernel
theorem dX10_isOf_20 : decode cX10_isOf 20 = .ok (.iaload, 1) := by decide +kernel
theorem dX10_isOf_21 : decode cX10_isOf 21 = .ok (.if_icmp .ne 7, 3) := by decide +kernel
theorem dX10_isOf_24 : decode cX10_isOf 24 = .ok (.iconst 1, 1) := by decide +kernel
theorem dX10_isOf_25 : decode cX10_isOf 25 = .ok (.goto 4, 3) := by decide +kernel
theorem dX10_isOf_28 : decode cX10_isOf 28 = .ok (.iconst 0, 1) := by decide +kernel
theorem dX10_isOf_29 : decode cX10_isOf 29 = .ok (.ireturn, 1) := by decide +kernel
theorem dX10_counts_0 : decode cX10_counts 0 = .ok (.aload_n 0, 1) := by decide +kernel
theorem dX10_counts_1 : decode cX10_counts 1 = .ok (.getfield 26, 3) := by decide +kernel
theorem dX10_counts_4 : decode cX10_counts 4 = .ok (.bipush 6, 2) := by decide +kernel
theorem dX10_counts_6 : decode cX10_counts 6 = .ok (.iload_n 2, 1) := by decide +kernel
theorem dX10_counts_7 : decode cX10_counts 7 = .ok (.imul, 1) := by decide +kernel
theorem dX10_counts_8 : decode cX10_counts 8 = .ok (.aload_n 0, 1) := by decide +kernel
theorem dX10_counts_9 : decode cX10_counts 9 = .ok (.getfield 39, 3) := by decide +kernel
theorem dX10_counts_12 : decode cX10_counts 12 = .ok (.iload_n 1, 1) := by decide +kernel
theorem dX10_counts_13 : decode cX10_counts 13 = .ok (.iaload, 1) := by decide +kernel
theorem dX10_counts_14 : decode cX10_counts 14 = .ok (.iadd, 1) := by decide +kernel
theorem dX10_counts_15 : decode cX10_counts 15 = .ok (.baload, 1) := by decide +kernel
theorem dX10_counts_16 : decode cX10_counts 16 = .ok (.ifCond .eq 47, 3) := by decide +kernel
theorem dX10_counts_19 : decode cX10_counts 19 = .ok (.aload_n 0, 1) := by decide +kernel
theorem dX10_counts_20 : decode cX10_counts 20 = .ok (.getfield 26, 3) := by decide +kernel
theorem dX10_counts_23 : decode cX10_counts 23 = .ok (.bipush 6, 2) := by decide +kernel
theorem dX10_counts_25 : decode cX10_counts 25 = .ok (.iload_n 2, 1) := by decide +kernel
theorem dX10_counts_26 : decode cX10_counts 26 = .ok (.imul, 1) := by decide +kernel
theorem dX10_counts_27 : decode cX10_counts 27 = .ok (.aload_n 0, 1) := by decide +kernel
theorem dX10_counts_28 : decode cX10_counts 28 = .ok (.getfield 42, 3) := by decide +kernel
theorem dX10_counts_31 : decode cX10_counts 31 = .ok (.iload_n 1, 1) := by decide +kernel
theorem dX10_counts_32 : decode cX10_counts 32 = .ok (.iaload, 1) := by decide +kernel
theorem dX10_counts_33 : decode cX10_counts 33 = .ok (.iadd, 1) := by decide +kernel
theorem dX10_counts_34 : decode cX10_counts 34 = .ok (.baload, 1) := by decide +kernel
theorem dX10_counts_35 : decode cX10_counts 35 = .ok (.ifCond .eq 28, 3) := by decide +kernel
theorem dX10_counts_38 : decode cX10_counts 38 = .ok (.aload_n 0, 1) := by decide +kernel
theorem dX10_counts_39 : decode cX10_counts 39 = .ok (.getfield 29, 3) := by decide +kernel
theorem dX10_counts_42 : decode cX10_counts 42 = .ok (.bipush 6, 2) := by decide +kernel
theorem dX10_counts_44 : decode cX10_counts 44 = .ok (.iload_n 2, 1) := by decide +kernel
theorem dX10_counts_45 : decode cX10_counts 45 = .ok (.imul, 1) := by decide +kernel
theorem dX10_counts_46 : decode cX10_counts 46 = .ok (.aload_n 0, 1) := by decide +kernel
theorem dX10_counts_47 : decode cX10_counts 47 = .ok (.getfield 42, 3) := by decide +kernel
theorem dX10_counts_50 : decode cX10_counts 50 = .ok (.iload_n 1, 1) := by decide +kernel
theorem dX10_counts_51 : decode cX10_counts 51 = .ok (.iaload, 1) := by decide +kernel
theorem dX10_counts_52 : decode cX10_counts 52 = .ok (.iadd, 1) := by decide +kernel
theorem dX10_counts_53 : decode cX10_counts 53 = .ok (.laload, 1) := by decide +kernel
theorem dX10_counts_54 : decode cX10_counts 54 = .ok (.lconst 0, 1) := by decide +kernel
theorem dX10_counts_55 : decode cX10_counts 55 = .ok (.lcmp, 1) := by decide +kernel
theorem dX10_counts_56 : decode cX10_counts 56 = .ok (.ifCond .le 7, 3) := by decide +kernel
theorem dX10_counts_59 : decode cX10_counts 59 = .ok (.iconst 1, 1) := by decide +kernel
theorem dX10_counts_60 : decode cX10_counts 60 = .ok (.goto 4, 3) := by decide +kernel
theorem dX10_counts_63 : decode cX10_counts 63 = .ok (.iconst 0, 1) := by decide +kernel
theorem dX10_counts_64 : decode cX10_counts 64 = .ok (.ireturn, 1) := by decide +kernel
theorem dX10_isMore_0 : decode cX10_isMore 0 = .ok (.aload_n 0, 1) := by decide +kernel
theorem dX10_isMore_1 : decode cX10_isMore 1 = .ok (.getfield 48, 3) := by decide +kernel
theorem dX10_isMore_4 : decode cX10_isMore 4 = .ok (.iload_n 1, 1) := by decide +kernel
theorem dX10_isMore_5 : decode cX10_isMore 5 = .ok (.laload, 1) := by decide +kernel
theorem dX10_isMore_6 : decode cX10_isMore 6 = .ok (.lstore 5, 2) := by decide +kernel
theorem dX10_isMore_8 : decode cX10_isMore 8 = .ok (.iconst 0, 1) := by decide +kernel
theorem dX10_isMore_9 : decode cX10_isMore 9 = .ok (.istore 7, 2) := by decide +kernel
theorem dX10_isMore_11 : decode cX10_isMore 11 = .ok (.iload 7, 2) := by decide +kernel
theorem dX10_isMore_13 : decode cX10_isMore 13 = .ok (.aload_n 0, 1) := by decide +kernel
theorem dX10_isMore_14 : decode cX10_isMore 14 = .ok (.getfield 106, 3) := by decide +kernel
theorem dX10_isMore_17 : decode cX10_isMore 17 = .ok (.if_icmp .ge 106, 3) := by decide +kernel
theorem dX10_isMore_20 : decode cX10_isMore 20 = .ok (.iload 7, 2) := by decide +kernel
theorem dX10_isMore_22 : decode cX10_isMore 22 = .ok (.iload 4, 2) := by decide +kernel
theorem dX10_isMore_24 : decode cX10_isMore 24 = .ok (.if_icmp .eq 93, 3) := by decide +kernel
theorem dX10_isMore_27 : decode cX10_isMore 27 = .ok (.aload_n 0, 1) := by decide +kernel
theorem dX10_isMore_28 : decode cX10_isMore 28 = .ok (.iload_n 1, 1) := by decide +kernel
theorem dX10_isMore_29 : decode cX10_isMore 29 = .ok (.iload 7, 2) := by decide +kernel
theorem dX10_isMore_31 : decode cX10_isMore 31 = .ok (.iload_n 3, 1) := by decide +kernel
theorem dX10_isMore_32 : decode cX10_isMore 32 = .ok (.invokevirtual 154, 3) := by decide +kernel
theorem dX10_isMore_35 : decode cX10_isMore 35 = .ok (.ifCond .eq 82, 3) := by decide +kernel
theorem dX10_isMore_38 : decode cX10_isMore 38 = .ok (.aload_n 0, 1) := by decide +kernel
theorem dX10_isMore_39 : decode cX10_isMore 39 = .ok (.iload_n 1, 1) := by decide +kernel
theorem dX10_isMore_40 : decode cX10_isMore 40 = .ok (.iload 7, 2) := by decide +kernel
theorem dX10_isMore_42 : decode cX10_isMore 42 = .ok (.invokevirtual 158, 3) := by decide +kernel
theorem dX10_isMore_45 : decode cX10_isMore 45 = .ok (.ifCond .eq 72, 3) := by decide +kernel
theorem dX10_isMore_48 : decode cX10_isMore 48 = .ok (.aload_n 0, 1) := by decide +kernel
theorem dX10_isMore_49 : decode cX10_isMore 49 = .ok (.iload 7, 2) := by decide +kernel
theorem dX10_isMore_51 : decode cX10_isMore 51 = .ok (.aload_n 0, 1) := by decide +kernel
theorem dX10_isMore_52 : decode cX10_isMore 52 = .ok (.getfield 39, 3) := by decide +kernel
theorem dX10_isMore_55 : decode cX10_isMore 55 = .ok (.iload_n 1, 1) := by decide +kernel
theorem dX10_isMore_56 : decode cX10_isMore 56 = .ok (.iaload, 1) := by decide +kernel
theorem dX10_isMore_57 : decode cX10_isMore 57 = .ok (.iload_n 2, 1) := by decide +kernel
theorem dX10_isMore_58 : decode cX10_isMore 58 = .ok (.aload_n 0, 1) := by decide +kernel
theorem dX10_isMore_59 : decode cX10_isMore 59 = .ok (.getfield 39, 3) := by decide +kernel
theorem dX10_isMore_62 : decode cX10_isMore 62 = .ok (.iload_n 1, 1) := by decide +kernel
theorem dX10_isMore_63 : decode cX10_isMore 63 = .ok (.iaload, 1) := by decide +kernel
theorem dX10_isMore_64 : decode cX10_isMore 64 = .ok (.invokevirtual 150, 3) := by decide +kernel
theorem dX10_isMore_67 : decode cX10_isMore 67 = .ok (.ifCond .eq 50, 3) := by decide +kernel
theorem dX10_isMore_70 : decode cX10_isMore 70 = .ok (.aload_n 0, 1) := by decide +kernel
theorem dX10_isMore_71 : decode cX10_isMore 71 = .ok (.getfield 29, 3) := by decide +kernel
theorem dX10_isMore_74 : decode cX10_isMore 74 = .ok (.bipush 6, 2) := by decide +kernel
theorem dX10_isMore_76 : decode cX10_isMore 76 = .ok (.iload 7, 2) := by decide +kernel
theorem dX10_isMore_78 : decode cX10_isMore 78 = .ok (.imul, 1) := by decide +kernel
theorem dX10_isMore_79 : decode cX10_isMore 79 = .ok (.aload_n 0, 1) := by decide +kernel
theorem dX10_isMore_80 : decode cX10_isMore 80 = .ok (.getfield 42, 3) := by decide +kernel
theorem dX10_isMore_83 : decode cX10_isMore 83 = .ok (.iload_n 1, 1) := by decide +kernel
theorem dX10_isMore_84 : decode cX10_isMore 84 = .ok (.iaload, 1) := by decide +kernel
theorem dX10_isMore_85 : decode cX10_isMore 85 = .ok (.iadd, 1) := by decide +kernel
theorem dX10_isMore_86 : decode cX10_isMore 86 = .ok (.laload, 1) := by decide +kernel
theorem dX10_isMore_87 : decode cX10_isMore 87 = .ok (.lload 5, 2) := by decide +kernel
theorem dX10_isMore_89 : decode cX10_isMore 89 = .ok (.lcmp, 1) := by decide +kernel
theorem dX10_isMore_90 : decode cX10_isMore 90 = .ok (.ifCond .le 5, 3) := by decide +kernel
theorem dX10_isMore_93 : decode cX10_isMore 93 = .ok (.iconst 1, 1) := by decide +kernel
theorem dX10_isMore_94 : decode cX10_isMore 94 = .ok (.ireturn, 1) := by decide +kernel
theorem dX10_isMore_95 : decode cX10_isMore 95 = .ok (.lload 5, 2) := by decide +kernel
theorem dX10_isMore_97 : decode cX10_isMore 97 = .ok (.aload_n 0, 1) := by decide +kernel
theorem dX10_isMore_98 : decode cX10_isMore 98 = .ok (.getfield 29, 3) := by decide +kernel
theorem dX10_isMore_101 : decode cX10_isMore 101 = .ok (.bipush 6, 2) := by decide +kernel
theorem dX10_isMore_103 : decode cX10_isMore 103 = .ok (.iload 7, 2) := by decide +kernel
theorem dX10_isMore_105 : decode cX10_isMore 105 = .ok (.imul, 1) := by decide +kernel
theorem dX10_isMore_106 : decode cX10_isMore 106 = .ok (.aload_n 0, 1) := by decide +kernel
theorem dX10_isMore_107 : decode cX10_isMore 107 = .ok (.getfield 42, 3) := by decide +kernel
theorem dX10_isMore_110 : decode cX10_isMore 110 = .ok (.iload_n 1, 1) := by decide +kernel
theorem dX10_isMore_111 : decode cX10_isMore 111 = .ok (.iaload, 1) := by decide +kernel
theorem dX10_isMore_112 : decode cX10_isMore 112 = .ok (.iadd, 1) := by decide +kernel
theorem dX10_isMore_113 : decode cX10_isMore 113 = .ok (.laload, 1) := by decide +kernel
theorem dX10_isMore_114 : decode cX10_isMore 114 = .ok (.lsub, 1) := by decide +kernel
theorem dX10_isMore_115 : decode cX10_isMore 115 = .ok (.lstore 5, 2) := by decide +kernel
theorem dX10_isMore_117 : decode cX10_isMore 117 = .ok (.iinc 7 1, 3) := by decide +kernel
theorem dX10_isMore_120 : decode cX10_isMore 120 = .ok (.goto (-109), 3) := by decide +kernel
theorem dX10_isMore_123 : decode cX10_isMore 123 = .ok (.iconst 0, 1) := by decide +kernel
theorem dX10_isMore_124 : decode cX10_isMore 124 = .ok (.ireturn, 1) := by decide +kernel
theorem dX10_breaksLaw_0 : decode cX10_breaksLaw 0 = .ok (.iconst 0, 1) := by decide +kernel
theorem dX10_breaksLaw_1 : decode cX10_breaksLaw 1 = .ok (.istore_n 3, 1) := by decide +kernel
theorem dX10_breaksLaw_2 : decode cX10_breaksLaw 2 = .ok (.iload_n 3, 1) := by decide +kernel
theorem dX10_breaksLaw_3 : decode cX10_breaksLaw 3 = .ok (.aload_n 0, 1) := by decide +kernel
theorem dX10_breaksLaw_4 : decode cX10_breaksLaw 4 = .ok (.getfield 106, 3) := by decide +kernel
theorem dX10_breaksLaw_7 : decode cX10_breaksLaw 7 = .ok (.if_icmp .ge 120, 3) := by decide +kernel
theorem dX10_breaksLaw_10 : decode cX10_breaksLaw 10 = .ok (.aload_n 0, 1) := by decide +kernel
theorem dX10_breaksLaw_11 : decode cX10_breaksLaw 11 = .ok (.iload_n 1, 1) := by decide +kernel
theorem dX10_breaksLaw_12 : decode cX10_breaksLaw 12 = .ok (.iload_n 3, 1) := by decide +kernel
theorem dX10_breaksLaw_13 : decode cX10_breaksLaw 13 = .ok (.iload_n 2, 1) := by decide +kernel
theorem dX10_breaksLaw_14 : decode cX10_breaksLaw 14 = .ok (.invokevirtual 154, 3) := by decide +kernel
theorem dX10_breaksLaw_17 : decode cX10_breaksLaw 17 = .ok (.ifCond .eq 104, 3) := by decide +kernel
theorem dX10_breaksLaw_20 : decode cX10_breaksLaw 20 = .ok (.aload_n 0, 1) := by decide +kernel
theorem dX10_breaksLaw_21 : decode cX10_breaksLaw 21 = .ok (.getfield 33, 3) := by decide +kernel
theorem dX10_breaksLaw_24 : decode cX10_breaksLaw 24 = .ok (.iload_n 1, 1) := by decide +kernel
theorem dX10_breaksLaw_25 : decode cX10_breaksLaw 25 = .ok (.iaload, 1) := by decide +kernel
theorem dX10_breaksLaw_26 : decode cX10_breaksLaw 26 = .ok (.iconst 4, 1) := by decide +kernel
theorem dX10_breaksLaw_27 : decode cX10_breaksLaw 27 = .ok (.if_icmp .ne 24, 3) := by decide +kernel
theorem dX10_breaksLaw_30 : decode cX10_breaksLaw 30 = .ok (.aload_n 0, 1) := by decide +kernel
theorem dX10_breaksLaw_31 : decode cX10_breaksLaw 31 = .ok (.iload_n 1, 1) := by decide +kernel
theorem dX10_breaksLaw_32 : decode cX10_breaksLaw 32 = .ok (.iload_n 3, 1) := by decide +kernel
theorem dX10_breaksLaw_33 : decode cX10_breaksLaw 33 = .ok (.invokevirtual 158, 3) := by decide +kernel
theorem dX10_breaksLaw_36 : decode cX10_breaksLaw 36 = .ok (.ifCond .eq 15, 3) := by decide +kernel
theorem dX10_breaksLaw_39 : decode cX10_breaksLaw 39 = .ok (.aload_n 0, 1) := by decide +kernel
theorem dX10_breaksLaw_40 : decode cX10_breaksLaw 40 = .ok (.iload_n 1, 1) := by decide +kernel
theorem dX10_breaksLaw_41 : decode cX10_breaksLaw 41 = .ok (.iload_n 3, 1) := by decide +kernel
theorem dX10_breaksLaw_42 : decode cX10_breaksLaw 42 = .ok (.iload_n 2, 1) := by decide +kernel
theorem dX10_breaksLaw_43 : decode cX10_breaksLaw 43 = .ok (.bipush (-9), 2) := by decide +kernel
theorem dX10_breaksLaw_45 : decode cX10_breaksLaw 45 = .ok (.invokevirtual 161, 3) := by decide +kernel
theorem dX10_breaksLaw_48 : decode cX10_breaksLaw 48 = .ok (.ifCond .ne 13, 3) := by decide +kernel
theorem dX10_breaksLaw_51 : decode cX10_breaksLaw 51 = .ok (.aload_n 0, 1) := by decide +kernel
theorem dX10_breaksLaw_52 : decode cX10_breaksLaw 52 = .ok (.iload_n 1, 1) := by decide +kernel
theorem dX10_breaksLaw_53 : decode cX10_breaksLaw 53 = .ok (.iload_n 3, 1) := by decide +kernel
theorem dX10_breaksLaw_54 : decode cX10_breaksLaw 54 = .ok (.iload_n 2, 1) := by decide +kernel
theorem dX10_breaksLaw_55 : decode cX10_breaksLaw 55 = .ok (.invokevirtual 164, 3) := by decide +kernel
theorem dX10_breaksLaw_58 : decode cX10_breaksLaw 58 = .ok (.ifCond .eq 5, 3) := by decide +kernel
theorem dX10_breaksLaw_61 : decode cX10_breaksLaw 61 = .ok (.iconst 1, 1) := by decide +kernel
theorem dX10_breaksLaw_62 : decode cX10_breaksLaw 62 = .ok (.ireturn, 1) := by decide +kernel
theorem dX10_breaksLaw_63 : decode cX10_breaksLaw 63 = .ok (.iconst 0, 1) := by decide +kernel
theorem dX10_breaksLaw_64 : decode cX10_breaksLaw 64 = .ok (.istore 4, 2) := by decide +kernel
theorem dX10_breaksLaw_66 : decode cX10_breaksLaw 66 = .ok (.iload 4, 2) := by decide +kernel
theorem dX10_breaksLaw_68 : decode cX10_breaksLaw 68 = .ok (.iload_n 3, 1) := by decide +kernel
theorem dX10_breaksLaw_69 : decode cX10_breaksLaw 69 = .ok (.if_icmp .ge 52, 3) := by decide +kernel
theorem dX10_breaksLaw_72 : decode cX10_breaksLaw 72 = .ok (.aload_n 0, 1) := by decide +kernel
theorem dX10_breaksLaw_73 : decode cX10_breaksLaw 73 = .ok (.getfield 33, 3) := by decide +kernel
theorem dX10_breaksLaw_76 : decode cX10_breaksLaw 76 = .ok (.iload_n 1, 1) := by decide +kernel
theorem dX10_breaksLaw_77 : decode cX10_breaksLaw 77 = .ok (.iaload, 1) := by decide +kernel
theorem dX10_breaksLaw_78 : decode cX10_breaksLaw 78 = .ok (.ifCond .eq 13, 3) := by decide +kernel
theorem dX10_breaksLaw_81 : decode cX10_breaksLaw 81 = .ok (.aload_n 0, 1) := by decide +kernel
theorem dX10_breaksLaw_82 : decode cX10_breaksLaw 82 = .ok (.getfield 33, 3) := by decide +kernel
theorem dX10_breaksLaw_85 : decode cX10_breaksLaw 85 = .ok (.iload_n 1, 1) := by decide +kernel
theorem dX10_breaksLaw_86 : decode cX10_breaksLaw 86 = .ok (.iaload, 1) := by decide +kernel
theorem dX10_breaksLaw_87 : decode cX10_breaksLaw 87 = .ok (.iconst 2, 1) := by decide +kernel
theorem dX10_breaksLaw_88 : decode cX10_breaksLaw 88 = .ok (.if_icmp .ne 27, 3) := by decide +kernel
theorem dX10_breaksLaw_91 : decode cX10_breaksLaw 91 = .ok (.aload_n 0, 1) := by decide +kernel
theorem dX10_breaksLaw_92 : decode cX10_breaksLaw 92 = .ok (.iload_n 1, 1) := by decide +kernel
theorem dX10_breaksLaw_93 : decode cX10_breaksLaw 93 = .ok (.iload 4, 2) := by decide +kernel
theorem dX10_breaksLaw_95 : decode cX10_breaksLaw 95 = .ok (.iload_n 2, 1) := by decide +kernel
theorem dX10_breaksLaw_96 : decode cX10_breaksLaw 96 = .ok (.invokevirtual 154, 3) := by decide +kernel
theorem dX10_breaksLaw_99 : decode cX10_breaksLaw 99 = .ok (.ifCond .eq 16, 3) := by decide +kernel
theorem dX10_breaksLaw_102 : decode cX10_breaksLaw 102 = .ok (.aload_n 0, 1) := by decide +kernel
theorem dX10_breaksLaw_103 : decode cX10_breaksLaw 103 = .ok (.iload_n 1, 1) := by decide +kernel
theorem dX10_breaksLaw_104 : decode cX10_breaksLaw 104 = .ok (.iload_n 3, 1) := by decide +kernel
theorem dX10_breaksLaw_105 : decode cX10_breaksLaw 105 = .ok (.iload 4, 2) := by decide +kernel
theorem dX10_breaksLaw_107 : decode cX10_breaksLaw 107 = .ok (.invokevirtual 167, 3) := by decide +kernel
theorem dX10_breaksLaw_110 : decode cX10_breaksLaw 110 = .ok (.ifCond .eq 5, 3) := by decide +kernel
theorem dX10_breaksLaw_113 : decode cX10_breaksLaw 113 = .ok (.iconst 1, 1) := by decide +kernel
theorem dX10_breaksLaw_114 : decode cX10_breaksLaw 114 = .ok (.ireturn, 1) := by decide +kernel
theorem dX10_breaksLaw_115 : decode cX10_breaksLaw 115 = .ok (.iinc 4 1, 3) := by decide +kernel
theorem dX10_breaksLaw_118 : decode cX10_breaksLaw 118 = .ok (.goto (-52), 3) := by decide +kernel
theorem dX10_breaksLaw_121 : decode cX10_breaksLaw 121 = .ok (.iinc 3 1, 3) := by decide +kernel
theorem dX10_breaksLaw_124 : decode cX10_breaksLaw 124 = .ok (.goto (-122), 3) := by decide +kernel
theorem dX10_breaksLaw_127 : decode cX10_breaksLaw 127 = .ok (.iconst 0, 1) := by decide +kernel
theorem dX10_breaksLaw_128 : decode cX10_breaksLaw 128 = .ok (.ireturn, 1) := by decide +kernel
theorem dX10_bitsOf_0 : decode cX10_bitsOf 0 = .ok (.iconst 0, 1) := by decide +kernel
theorem dX10_bitsOf_1 : decode cX10_bitsOf 1 = .ok (.istore_n 1, 1) := by decide +kernel
theorem dX10_bitsOf_2 : decode cX10_bitsOf 2 = .ok (.iconst 0, 1) := by decide +kernel
theorem dX10_bitsOf_3 : decode cX10_bitsOf 3 = .ok (.istore_n 2, 1) := by decide +kernel
theorem dX10_bitsOf_4 : decode cX10_bitsOf 4 = .ok (.iload_n 2, 1) := by decide +kernel
theorem dX10_bitsOf_5 : decode cX10_bitsOf 5 = .ok (.bipush 12, 2) := by decide +kernel
theorem dX10_bitsOf_7 : decode cX10_bitsOf 7 = .ok (.if_icmp .ge 17, 3) := by decide +kernel
theorem dX10_bitsOf_10 : decode cX10_bitsOf 10 = .ok (.iload_n 1, 1) := by decide +kernel
theorem dX10_bitsOf_11 : decode cX10_bitsOf 11 = .ok (.iload_n 0, 1) := by decide +kernel
theorem dX10_bitsOf_12 : decode cX10_bitsOf 12 = .ok (.iload_n 2, 1) := by decide +kernel
theorem dX10_bitsOf_13 : decode cX10_bitsOf 13 = .ok (.ishr, 1) := by decide +kernel
theorem dX10_bitsOf_14 : decode cX10_bitsOf 14 = .ok (.iconst 1, 1) := by decide +kernel
theorem dX10_bitsOf_15 : decode cX10_bitsOf 15 = .ok (.iand, 1) := by decide +kernel
theorem dX10_bitsOf_16 : decode cX10_bitsOf 16 = .ok (.iadd, 1) := by decide +kernel
theorem dX10_bitsOf_17 : decode cX10_bitsOf 17 = .ok (.istore_n 1, 1) := by decide +kernel
theorem dX10_bitsOf_18 : decode cX10_bitsOf 18 = .ok (.iinc 2 1, 3) := by decide +kernel
theorem dX10_bitsOf_21 : decode cX10_bitsOf 21 = .ok (.goto (-17), 3) := by decide +kernel
theorem dX10_bitsOf_24 : decode cX10_bitsOf 24 = .ok (.iload_n 1, 1) := by decide +kernel
theorem dX10_bitsOf_25 : decode cX10_bitsOf 25 = .ok (.ireturn, 1) := by decide +kernel
theorem dX10_isLeastSum_0 : decode cX10_isLeastSum 0 = .ok (.iconst 0, 1) := by decide +kernel
theorem dX10_isLeastSum_1 : decode cX10_isLeastSum 1 = .ok (.istore_n 3, 1) := by decide +kernel
theorem dX10_isLeastSum_2 : decode cX10_isLeastSum 2 = .ok (.iload_n 2, 1) := by decide +kernel
theorem dX10_isLeastSum_3 : decode cX10_isLeastSum 3 = .ok (.iload_n 3, 1) := by decide +kernel
theorem dX10_isLeastSum_4 : decode cX10_isLeastSum 4 = .ok (.ishr, 1) := by decide +kernel
theorem dX10_isLeastSum_5 : decode cX10_isLeastSum 5 = .ok (.iconst 1, 1) := by decide +kernel
theorem dX10_isLeastSum_6 : decode cX10_isLeastSum 6 = .ok (.iand, 1) := by decide +kernel
theorem dX10_isLeastSum_7 : decode cX10_isLeastSum 7 = .ok (.ifCond .ne 9, 3) := by decide +kernel
theorem dX10_isLeastSum_10 : decode cX10_isLeastSum 10 = .ok (.iinc 3 1, 3) := by decide +kernel
theorem dX10_isLeastSum_13 : decode cX10_isLeastSum 13 = .ok (.goto (-11), 3) := by decide +kernel
theorem dX10_isLeastSum_16 : decode cX10_isLeastSum 16 = .ok (.iconst 0, 1) := by decide +kernel
theorem dX10_isLeastSum_17 : decode cX10_isLeastSum 17 = .ok (.istore 4, 2) := by decide +kernel
theorem dX10_isLeastSum_19 : decode cX10_isLeastSum 19 = .ok (.iload 4, 2) := by decide +kernel
theorem dX10_isLeastSum_21 : decode cX10_isLeastSum 21 = .ok (.aload_n 0, 1) := by decide +kernel
theorem dX10_isLeastSum_22 : decode cX10_isLeastSum 22 = .ok (.getfield 106, 3) := by decide +kernel
theorem dX10_isLeastSum_25 : decode cX10_isLeastSum 25 = .ok (.if_icmp .ge 76, 3) := by decide +kernel
theorem dX10_isLeastSum_28 : decode cX10_isLeastSum 28 = .ok (.iload_n 2, 1) := by decide +kernel
theorem dX10_isLeastSum_29 : decode cX10_isLeastSum 29 = .ok (.iload 4, 2) := by decide +kernel
theorem dX10_isLeastSum_31 : decode cX10_isLeastSum 31 = .ok (.ishr, 1) := by decide +kernel
theorem dX10_isLeastSum_32 : decode cX10_isLeastSum 32 = .ok (.iconst 1, 1) := by decide +kernel
theorem dX10_isLeastSum_33 : decode cX10_isLeastSum 33 = .ok (.iand, 1) := by decide +kernel
theorem dX10_isLeastSum_34 : decode cX10_isLeastSum 34 = .ok (.iconst 1, 1) := by decide +kernel
theorem dX10_isLeastSum_35 : decode cX10_isLeastSum 35 = .ok (.if_icmp .ne 60, 3) := by decide +kernel
theorem dX10_isLeastSum_38 : decode cX10_isLeastSum 38 = .ok (.aload_n 0, 1) := by decide +kernel
theorem dX10_isLeastSum_39 : decode cX10_isLeastSum 39 = .ok (.iload_n 1, 1) := by decide +kernel
theorem dX10_isLeastSum_40 : decode cX10_isLeastSum 40 = .ok (.iload 4, 2) := by decide +kernel
theorem dX10_isLeastSum_42 : decode cX10_isLeastSum 42 = .ok (.iload_n 2, 1) := by decide +kernel
theorem dX10_isLeastSum_43 : decode cX10_isLeastSum 43 = .ok (.invokevirtual 154, 3) := by decide +kernel
theorem dX10_isLeastSum_46 : decode cX10_isLeastSum 46 = .ok (.ifCond .eq 47, 3) := by decide +kernel
theorem dX10_isLeastSum_49 : decode cX10_isLeastSum 49 = .ok (.aload_n 0, 1) := by decide +kernel
theorem dX10_isLeastSum_50 : decode cX10_isLeastSum 50 = .ok (.iload_n 1, 1) := by decide +kernel
theorem dX10_isLeastSum_51 : decode cX10_isLeastSum 51 = .ok (.iload 4, 2) := by decide +kernel
theorem dX10_isLeastSum_53 : decode cX10_isLeastSum 53 = .ok (.invokevirtual 158, 3) := by decide +kernel
theorem dX10_isLeastSum_56 : decode cX10_isLeastSum 56 = .ok (.ifCond .eq 37, 3) := by decide +kernel
theorem dX10_isLeastSum_59 : decode cX10_isLeastSum 59 = .ok (.aload_n 0, 1) := by decide +kernel
theorem dX10_isLeastSum_60 : decode cX10_isLeastSum 60 = .ok (.iload 4, 2) := by decide +kernel
theorem dX10_isLeastSum_62 : decode cX10_isLeastSum 62 = .ok (.aload_n 0, 1) := by decide +kernel
theorem dX10_isLeastSum_63 : decode cX10_isLeastSum 63 = .ok (.getfield 39, 3) := by decide +kernel
theorem dX10_isLeastSum_66 : decode cX10_isLeastSum 66 = .ok (.iload_n 1, 1) := by decide +kernel
theorem dX10_isLeastSum_67 : decode cX10_isLeastSum 67 = .ok (.iaload, 1) := by decide +kernel
theorem dX10_isLeastSum_68 : decode cX10_isLeastSum 68 = .ok (.iload_n 3, 1) := by decide +kernel
theorem dX10_isLeastSum_69 : decode cX10_isLeastSum 69 = .ok (.aload_n 0, 1) := by decide +kernel
theorem dX10_isLeastSum_70 : decode cX10_isLeastSum 70 = .ok (.getfield 39, 3) := by decide +kernel
theorem dX10_isLeastSum_73 : decode cX10_isLeastSum 73 = .ok (.iload_n 1, 1) := by decide +kernel
theorem dX10_isLeastSum_74 : decode cX10_isLeastSum 74 = .ok (.iaload, 1) := by decide +kernel
theorem dX10_isLeastSum_75 : decode cX10_isLeastSum 75 = .ok (.invokevirtual 150, 3) := by decide +kernel
theorem dX10_isLeastSum_78 : decode cX10_isLeastSum 78 = .ok (.ifCond .eq 15, 3) := by decide +kernel
theorem dX10_isLeastSum_81 : decode cX10_isLeastSum 81 = .ok (.aload_n 0, 1) := by decide +kernel
theorem dX10_isLeastSum_82 : decode cX10_isLeastSum 82 = .ok (.iload_n 1, 1) := by decide +kernel
theorem dX10_isLeastSum_83 : decode cX10_isLeastSum 83 = .ok (.iload_n 3, 1) := by decide +kernel
theorem dX10_isLeastSum_84 : decode cX10_isLeastSum 84 = .ok (.iload_n 2, 1) := by decide +kernel
theorem dX10_isLeastSum_85 : decode cX10_isLeastSum 85 = .ok (.iload 4, 2) := by decide +kernel
theorem dX10_isLeastSum_87 : decode cX10_isLeastSum 87 = .ok (.invokevirtual 161, 3) := by decide +kernel
theorem dX10_isLeastSum_90 : decode cX10_isLeastSum 90 = .ok (.ifCond .eq 5, 3) := by decide +kernel
theorem dX10_isLeastSum_93 : decode cX10_isLeastSum 93 = .ok (.iconst 0, 1) := by decide +kernel
theorem dX10_isLeastSum_94 : decode cX10_isLeastSum 94 = .ok (.ireturn, 1) := by decide +kernel
theorem dX10_isLeastSum_95 : decode cX10_isLeastSum 95 = .ok (.iinc 4 1, 3) := by decide +kernel
theorem dX10_isLeastSum_98 : decode cX10_isLeastSum 98 = .ok (.goto (-79), 3) := by decide +kernel
theorem dX10_isLeastSum_101 : decode cX10_isLeastSum 101 = .ok (.aload_n 0, 1) := by decide +kernel
theorem dX10_isLeastSum_102 : decode cX10_isLeastSum 102 = .ok (.iload_n 1, 1) := by decide +kernel
theorem dX10_isLeastSum_103 : decode cX10_isLeastSum 103 = .ok (.iload_n 3, 1) := by decide +kernel
theorem dX10_isLeastSum_104 : decode cX10_isLeastSum 104 = .ok (.iload_n 2, 1) := by decide +kernel
theorem dX10_isLeastSum_105 : decode cX10_isLeastSum 105 = .ok (.bipush (-9), 2) := by decide +kernel
theorem dX10_isLeastSum_107 : decode cX10_isLeastSum 107 = .ok (.invokevirtual 161, 3) := by decide +kernel
theorem dX10_isLeastSum_110 : decode cX10_isLeastSum 110 = .ok (.ireturn, 1) := by decide +kernel
theorem dX10_findQuarrels_0 : decode cX10_findQuarrels 0 = .ok (.aload_n 0, 1) := by decide +kernel
theorem dX10_findQuarrels_1 : decode cX10_findQuarrels 1 = .ok (.invokevirtual 170, 3) := by decide +kernel
theorem dX10_findQuarrels_4 : decode cX10_findQuarrels 4 = .ok (.istore_n 2, 1) := by decide +kernel
theorem dX10_findQuarrels_5 : decode cX10_findQuarrels 5 = .ok (.aload_n 0, 1) := by decide +kernel
theorem dX10_findQuarrels_6 : decode cX10_findQuarrels 6 = .ok (.iconst 0, 1) := by decide +kernel
theorem dX10_findQuarrels_7 : decode cX10_findQuarrels 7 = .ok (.putfield 174, 3) := by decide +kernel
theorem dX10_findQuarrels_10 : decode cX10_findQuarrels 10 = .ok (.iconst 1, 1) := by decide +kernel
theorem dX10_findQuarrels_11 : decode cX10_findQuarrels 11 = .ok (.istore_n 3, 1) := by decide +kernel
theorem dX10_findQuarrels_12 : decode cX10_findQuarrels 12 = .ok (.iload_n 3, 1) := by decide +kernel
theorem dX10_findQuarrels_13 : decode cX10_findQuarrels 13 = .ok (.iconst 1, 1) := by decide +kernel
theorem dX10_findQuarrels_14 : decode cX10_findQuarrels 14 = .ok (.aload_n 0, 1) := by decide +kernel
theorem dX10_findQuarrels_15 : decode cX10_findQuarrels 15 = .ok (.getfield 106, 3) := by decide +kernel
theorem dX10_findQuarrels_18 : decode cX10_findQuarrels 18 = .ok (.ishl, 1) := by decide +kernel
theorem dX10_findQuarrels_19 : decode cX10_findQuarrels 19 = .ok (.if_icmp .ge 169, 3) := by decide +kernel
theorem dX10_findQuarrels_22 : decode cX10_findQuarrels 22 = .ok (.iload_n 3, 1) := by decide +kernel
theorem dX10_findQuarrels_23 : decode cX10_findQuarrels 23 = .ok (.iload_n 2, 1) := by decide +kernel
theorem dX10_findQuarrels_24 : decode cX10_findQuarrels 24 = .ok (.iconst (-1), 1) := by decide +kernel
theorem dX10_findQuarrels_25 : decode cX10_findQuarrels 25 = .ok (.ixor, 1) := by decide +kernel
theorem dX10_findQuarrels_26 : decode cX10_findQuarrels 26 = .ok (.iand, 1) := by decide +kernel
theorem dX10_findQuarrels_27 : decode cX10_findQuarrels 27 = .ok (.ifCond .eq 6, 3) := by decide +kernel
theorem dX10_findQuarrels_30 : decode cX10_findQuarrels 30 = .ok (.goto 152, 3) := by decide +kernel
theorem dX10_findQuarrels_33 : decode cX10_findQuarrels 33 = .ok (.iload_n 3, 1) := by decide +kernel
theorem dX10_findQuarrels_34 : decode cX10_findQuarrels 34 = .ok (.invokestatic 177, 3) := by decide +kernel
theorem dX10_findQuarrels_37 : decode cX10_findQuarrels 37 = .ok (.istore 4, 2) := by decide +kernel
theorem dX10_findQuarrels_39 : decode cX10_findQuarrels 39 = .ok (.aload_n 0, 1) := by decide +kernel
theorem dX10_findQuarrels_40 : decode cX10_findQuarrels 40 = .ok (.getfield 33, 3) := by decide +kernel
theorem dX10_findQuarrels_43 : decode cX10_findQuarrels 43 = .ok (.iload_n 1, 1) := by decide +kernel
theorem dX10_findQuarrels_44 : decode cX10_findQuarrels 44 = .ok (.iaload, 1) := by decide +kernel
theorem dX10_findQuarrels_45 : decode cX10_findQuarrels 45 = .ok (.iconst 4, 1) := by decide +kernel
theorem dX10_findQuarrels_46 : decode cX10_findQuarrels 46 = .ok (.if_icmp .ne 14, 3) := by decide +kernel
theorem dX10_findQuarrels_49 : decode cX10_findQuarrels 49 = .ok (.aload_n 0, 1) := by decide +kernel
theorem dX10_findQuarrels_50 : decode cX10_findQuarrels 50 = .ok (.iload_n 1, 1) := by decide +kernel
theorem dX10_findQuarrels_51 : decode cX10_findQuarrels 51 = .ok (.iload_n 3, 1) := by decide +kernel
theorem dX10_findQuarrels_52 : decode cX10_findQuarrels 52 = .ok (.invokevirtual 180, 3) := by decide +kernel
theorem dX10_findQuarrels_55 : decode cX10_findQuarrels 55 = .ok (.istore 5, 2) := by decide +kernel
theorem dX10_findQuarrels_57 : decode cX10_findQuarrels 57 = .ok (.goto 100, 3) := by decide +kernel
theorem dX10_findQuarrels_60 : decode cX10_findQuarrels 60 = .ok (.aload_n 0, 1) := by decide +kernel
theorem dX10_findQuarrels_61 : decode cX10_findQuarrels 61 = .ok (.getfield 33, 3) := by decide +kernel
theorem dX10_findQuarrels_64 : decode cX10_findQuarrels 64 = .ok (.iload_n 1, 1) := by decide +kernel
theorem dX10_findQuarrels_65 : decode cX10_findQuarrels 65 = .ok (.iaload, 1) := by decide +kernel
theorem dX10_findQuarrels_66 : decode cX10_findQuarrels 66 = .ok (.ifCond .eq 13, 3) := by decide +kernel
theorem dX10_findQuarrels_69 : decode cX10_findQuarrels 69 = .ok (.aload_n 0, 1) := by decide +kernel
theorem dX10_findQuarrels_70 : decode cX10_findQuarrels 70 = .ok (.getfield 33, 3) := by decide +kernel
theorem dX10_findQuarrels_73 : decode cX10_findQuarrels 73 = .ok (.iload_n 1, 1) := by decide +kernel
theorem dX10_findQuarrels_74 : decode cX10_findQuarrels 74 = .ok (.iaload, 1) := by decide +kernel
theorem dX10_findQuarrels_75 : decode cX10_findQuarrels 75 = .ok (.iconst 2, 1) := by decide +kernel
theorem dX10_findQuarrels_76 : decode cX10_findQuarrels 76 = .ok (.if_icmp .ne 28, 3) := by decide +kernel
theorem dX10_findQuarrels_79 : decode cX10_findQuarrels 79 = .ok (.iload 4, 2) := by decide +kernel
theorem dX10_findQuarrels_81 : decode cX10_findQuarrels 81 = .ok (.iconst 2, 1) := by decide +kernel
theorem dX10_findQuarrels_82 : decode cX10_findQuarrels 82 = .ok (.if_icmp .ne 16, 3) := by decide +kernel
theorem dX10_findQuarrels_85 : decode cX10_findQuarrels 85 = .ok (.aload_n 0, 1) := by decide +kernel
theorem dX10_findQuarrels_86 : decode cX10_findQuarrels 86 = .ok (.iload_n 1, 1) := by decide +kernel
theorem dX10_findQuarrels_87 : decode cX10_findQuarrels 87 = .ok (.iload_n 3, 1) := by decide +kernel
theorem dX10_findQuarrels_88 : decode cX10_findQuarrels 88 = .ok (.invokevirtual 183, 3) := by decide +kernel
theorem dX10_findQuarrels_91 : decode cX10_findQuarrels 91 = .ok (.ifCond .eq 7, 3) := by decide +kernel
theorem dX10_findQuarrels_94 : decode cX10_findQuarrels 94 = .ok (.iconst 1, 1) := by decide +kernel
theorem dX10_findQuarrels_95 : decode cX10_findQuarrels 95 = .ok (.goto 4, 3) := by decide +kernel
theorem dX10_findQuarrels_98 : decode cX10_findQuarrels 98 = .ok (.iconst 0, 1) := by decide +kernel
theorem dX10_findQuarrels_99 : decode cX10_findQuarrels 99 = .ok (.istore 5, 2) := by decide +kernel
theorem dX10_findQuarrels_101 : decode cX10_findQuarrels 101 = .ok (.goto 56, 3) := by decide +kernel
theorem dX10_findQuarrels_104 : decode cX10_findQuarrels 104 = .ok (.iconst 0, 1) := by decide +kernel
theorem dX10_findQuarrels_105 : decode cX10_findQuarrels 105 = .ok (.istore 6, 2) := by decide +kernel
theorem dX10_findQuarrels_107 : decode cX10_findQuarrels 107 = .ok (.iload_n 3, 1) := by decide +kernel
theorem dX10_findQuarrels_108 : decode cX10_findQuarrels 108 = .ok (.iload 6, 2) := by decide +kernel
theorem dX10_findQuarrels_110 : decode cX10_findQuarrels 110 = .ok (.ishr, 1) := by decide +kernel
theorem dX10_findQuarrels_111 : decode cX10_findQuarrels 111 = .ok (.iconst 1, 1) := by decide +kernel
theorem dX10_findQuarrels_112 : decode cX10_findQuarrels 112 = .ok (.iand, 1) := by decide +kernel
theorem dX10_findQuarrels_113 : decode cX10_findQuarrels 113 = .ok (.ifCond .ne 9, 3) := by decide +kernel
theorem dX10_findQuarrels_116 : decode cX10_findQuarrels 116 = .ok (.iinc 6 1, 3) := by decide +kernel
theorem dX10_findQuarrels_119 : decode cX10_findQuarrels 119 = .ok (.goto (-12), 3) := by decide +kernel
theorem dX10_findQuarrels_122 : decode cX10_findQuarrels 122 = .ok (.iload 4, 2) := by decide +kernel
theorem dX10_findQuarrels_124 : decode cX10_findQuarrels 124 = .ok (.iconst 1, 1) := by decide +kernel
theorem dX10_findQuarrels_125 : decode cX10_findQuarrels 125 = .ok (.if_icmp .ne 29, 3) := by decide +kernel
theorem dX10_findQuarrels_128 : decode cX10_findQuarrels 128 = .ok (.aload_n 0, 1) := by decide +kernel
theorem dX10_findQuarrels_129 : decode cX10_findQuarrels 129 = .ok (.iload_n 1, 1) := by decide +kernel
theorem dX10_findQuarrels_130 : decode cX10_findQuarrels 130 = .ok (.iload 6, 2) := by decide +kernel
theorem dX10_findQuarrels_132 : decode cX10_findQuarrels 132 = .ok (.iload_n 3, 1) := by decide +kernel
theorem dX10_findQuarrels_133 : decode cX10_findQuarrels 133 = .ok (.invokevirtual 154, 3) := by decide +kernel
theorem dX10_findQuarrels_136 : decode cX10_findQuarrels 136 = .ok (.ifCond .eq 18, 3) := by decide +kernel
theorem dX10_findQuarrels_139 : decode cX10_findQuarrels 139 = .ok (.aload_n 0, 1) := by decide +kernel
theorem dX10_findQuarrels_140 : decode cX10_findQuarrels 140 = .ok (.iload_n 1, 1) := by decide +kernel
theorem dX10_findQuarrels_141 : decode cX10_findQuarrels 141 = .ok (.iload 6, 2) := by decide +kernel
theorem dX10_findQuarrels_143 : decode cX10_findQuarrels 143 = .ok (.iload_n 2, 1) := by decide +kernel
theorem dX10_findQuarrels_144 : decode cX10_findQuarrels 144 = .ok (.invokevirtual 164, 3) := by decide +kernel
theorem dX10_findQuarrels_147 : decode cX10_findQuarrels 147 = .ok (.ifCond .eq 7, 3) := by decide +kernel
theorem dX10_findQuarrels_150 : decode cX10_findQuarrels 150 = .ok (.iconst 1, 1) := by decide +kernel
theorem dX10_findQuarrels_151 : decode cX10_findQuarrels 151 = .ok (.goto 4, 3) := by decide +kernel
theorem dX10_findQuarrels_154 : decode cX10_findQuarrels 154 = .ok (.iconst 0, 1) := by decide +kernel
theorem dX10_findQuarrels_155 : decode cX10_findQuarrels 155 = .ok (.istore 5, 2) := by decide +kernel
theorem dX10_findQuarrels_157 : decode cX10_findQuarrels 157 = .ok (.iload 5, 2) := by decide +kernel
theorem dX10_findQuarrels_159 : decode cX10_findQuarrels 159 = .ok (.ifCond .eq 23, 3) := by decide +kernel
theorem dX10_findQuarrels_162 : decode cX10_findQuarrels 162 = .ok (.aload_n 0, 1) := by decide +kernel
theorem dX10_findQuarrels_163 : decode cX10_findQuarrels 163 = .ok (.getfield 84, 3) := by decide +kernel
theorem dX10_findQuarrels_166 : decode cX10_findQuarrels 166 = .ok (.aload_n 0, 1) := by decide +kernel
theorem dX10_findQuarrels_167 : decode cX10_findQuarrels 167 = .ok (.getfield 174, 3) := by decide +kernel
theorem dX10_findQuarrels_170 : decode cX10_findQuarrels 170 = .ok (.iload_n 3, 1) := by decide +kernel
theorem dX10_findQuarrels_171 : decode cX10_findQuarrels 171 = .ok (.iastore, 1) := by decide +kernel
theorem dX10_findQuarrels_172 : decode cX10_findQuarrels 172 = .ok (.aload_n 0, 1) := by decide +kernel
theorem dX10_findQuarrels_173 : decode cX10_findQuarrels 173 = .ok (.dup, 1) := by decide +kernel
theorem dX10_findQuarrels_174 : decode cX10_findQuarrels 174 = .ok (.getfield 174, 3) := by decide +kernel
theorem dX10_findQuarrels_177 : decode cX10_findQuarrels 177 = .ok (.iconst 1, 1) := by decide +kernel
theorem dX10_findQuarrels_178 : decode cX10_findQuarrels 178 = .ok (.iadd, 1) := by decide +kernel
theorem dX10_findQuarrels_179 : decode cX10_findQuarrels 179 = .ok (.putfield 174, 3) := by decide +kernel
theorem dX10_findQuarrels_182 : decode cX10_findQuarrels 182 = .ok (.iinc 3 1, 3) := by decide +kernel
theorem dX10_findQuarrels_185 : decode cX10_findQuarrels 185 = .ok (.goto (-173), 3) := by decide +kernel
theorem dX10_findQuarrels_188 : decode cX10_findQuarrels 188 = .ok (.return_, 1) := by decide +kernel
theorem dX10_quarrels_0 : decode cX10_quarrels 0 = .ok (.aload_n 0, 1) := by decide +kernel
theorem dX10_quarrels_1 : decode cX10_quarrels 1 = .ok (.iconst 0, 1) := by decide +kernel
theorem dX10_quarrels_2 : decode cX10_quarrels 2 = .ok (.putfield 93, 3) := by decide +kernel
theorem dX10_quarrels_5 : decode cX10_quarrels 5 = .ok (.aload_n 0, 1) := by decide +kernel
theorem dX10_quarrels_6 : decode cX10_quarrels 6 = .ok (.iload_n 1, 1) := by decide +kernel
theorem dX10_quarrels_7 : decode cX10_quarrels 7 = .ok (.invokevirtual 147, 3) := by decide +kernel
theorem dX10_quarrels_10 : decode cX10_quarrels 10 = .ok (.ifCond .eq 5, 3) := by decide +kernel
theorem dX10_quarrels_13 : decode cX10_quarrels 13 = .ok (.iconst (-1), 1) := by decide +kernel
theorem dX10_quarrels_14 : decode cX10_quarrels 14 = .ok (.ireturn, 1) := by decide +kernel
theorem dX10_quarrels_15 : decode cX10_quarrels 15 = .ok (.aload_n 0, 1) := by decide +kernel
theorem dX10_quarrels_16 : decode cX10_quarrels 16 = .ok (.iload_n 1, 1) := by decide +kernel
theorem dX10_quarrels_17 : decode cX10_quarrels 17 = .ok (.invokevirtual 186, 3) := by decide +kernel
theorem dX10_quarrels_20 : decode cX10_quarrels 20 = .ok (.aload_n 0, 1) := by decide +kernel
theorem dX10_quarrels_21 : decode cX10_quarrels 21 = .ok (.getfield 174, 3) := by decide +kernel
theorem dX10_quarrels_24 : decode cX10_quarrels 24 = .ok (.ireturn, 1) := by decide +kernel
theorem dX10_quarrel_0 : decode cX10_quarrel 0 = .ok (.aload_n 0, 1) := by decide +kernel
theorem dX10_quarrel_1 : decode cX10_quarrel 1 = .ok (.iconst 0, 1) := by decide +kernel
theorem dX10_quarrel_2 : decode cX10_quarrel 2 = .ok (.putfield 93, 3) := by decide +kernel
theorem dX10_quarrel_5 : decode cX10_quarrel 5 = .ok (.aload_n 0, 1) := by decide +kernel
theorem dX10_quarrel_6 : decode cX10_quarrel 6 = .ok (.iload_n 1, 1) := by decide +kernel
theorem dX10_quarrel_7 : decode cX10_quarrel 7 = .ok (.invokevirtual 147, 3) := by decide +kernel
theorem dX10_quarrel_10 : decode cX10_quarrel 10 = .ok (.ifCond .eq 5, 3) := by decide +kernel
theorem dX10_quarrel_13 : decode cX10_quarrel 13 = .ok (.iconst (-1), 1) := by decide +kernel
theorem dX10_quarrel_14 : decode cX10_quarrel 14 = .ok (.ireturn, 1) := by decide +kernel
theorem dX10_quarrel_15 : decode cX10_quarrel 15 = .ok (.aload_n 0, 1) := by decide +kernel
theorem dX10_quarrel_16 : decode cX10_quarrel 16 = .ok (.iload_n 1, 1) := by decide +kernel
theorem dX10_quarrel_17 : decode cX10_quarrel 17 = .ok (.invokevirtual 186, 3) := by decide +kernel
theorem dX10_quarrel_20 : decode cX10_quarrel 20 = .ok (.iload_n 2, 1) := by decide +kernel
theorem dX10_quarrel_21 : decode cX10_quarrel 21 = .ok (.i2l, 1) := by decide +kernel
theorem dX10_quarrel_22 : decode cX10_quarrel 22 = .ok (.lconst 0, 1) := by decide +kernel
theorem dX10_quarrel_23 : decode cX10_quarrel 23 = .ok (.aload_n 0, 1) := by decide +kernel
theorem dX10_quarrel_24 : decode cX10_quarrel 24 = .ok (.getfield 174, 3) := by decide +kernel
theorem dX10_quarrel_27 : decode cX10_quarrel 27 = .ok (.iconst 1, 1) := by decide +kernel
theorem dX10_quarrel_28 : decode cX10_quarrel 28 = .ok (.isub, 1) := by decide +kernel
theorem dX10_quarrel_29 : decode cX10_quarrel 29 = .ok (.i2l, 1) := by decide +kernel
theorem dX10_quarrel_30 : decode cX10_quarrel 30 = .ok (.invokestatic 102, 3) := by decide +kernel
theorem dX10_quarrel_33 : decode cX10_quarrel 33 = .ok (.ifCond .eq 12, 3) := by decide +kernel
theorem dX10_quarrel_36 : decode cX10_quarrel 36 = .ok (.aload_n 0, 1) := by decide +kernel
theorem dX10_quarrel_37 : decode cX10_quarrel 37 = .ok (.getfield 84, 3) := by decide +kernel
theorem dX10_quarrel_40 : decode cX10_quarrel 40 = .ok (.iload_n 2, 1) := by decide +kernel
theorem dX10_quarrel_41 : decode cX10_quarrel 41 = .ok (.iaload, 1) := by decide +kernel
theorem dX10_quarrel_42 : decode cX10_quarrel 42 = .ok (.goto 5, 3) := by decide +kernel
theorem dX10_quarrel_45 : decode cX10_quarrel 45 = .ok (.bipush (-9), 2) := by decide +kernel
theorem dX10_quarrel_47 : decode cX10_quarrel 47 = .ok (.ireturn, 1) := by decide +kernel
theorem dX10_firstBroken_0 : decode cX10_firstBroken 0 = .ok (.iconst 0, 1) := by decide +kernel
theorem dX10_firstBroken_1 : decode cX10_firstBroken 1 = .ok (.istore_n 2, 1) := by decide +kernel
theorem dX10_firstBroken_2 : decode cX10_firstBroken 2 = .ok (.iload_n 2, 1) := by decide +kernel
theorem dX10_firstBroken_3 : decode cX10_firstBroken 3 = .ok (.aload_n 0, 1) := by decide +kernel
theorem dX10_firstBroken_4 : decode cX10_firstBroken 4 = .ok (.getfield 109, 3) := by decide +kernel
theorem dX10_firstBroken_7 : decode cX10_firstBroken 7 = .ok (.if_icmp .ge 29, 3) := by decide +kernel
theorem dX10_firstBroken_10 : decode cX10_firstBroken 10 = .ok (.aload_n 0, 1) := by decide +kernel
theorem dX10_firstBroken_11 : decode cX10_firstBroken 11 = .ok (.getfield 54, 3) := by decide +kernel
theorem dX10_firstBroken_14 : decode cX10_firstBroken 14 = .ok (.iload_n 2, 1) := by decide +kernel
theorem dX10_firstBroken_15 : decode cX10_firstBroken 15 = .ok (.baload, 1) := by decide +kernel
theorem dX10_firstBroken_16 : decode cX10_firstBroken 16 = .ok (.ifCond .eq 14, 3) := by decide +kernel
theorem dX10_firstBroken_19 : decode cX10_firstBroken 19 = .ok (.aload_n 0, 1) := by decide +kernel
theorem dX10_firstBroken_20 : decode cX10_firstBroken 20 = .ok (.iload_n 2, 1) := by decide +kernel
theorem dX10_firstBroken_21 : decode cX10_firstBroken 21 = .ok (.iload_n 1, 1) := by decide +kernel
theorem dX10_firstBroken_22 : decode cX10_firstBroken 22 = .ok (.invokevirtual 183, 3) := by decide +kernel
theorem dX10_firstBroken_25 : decode cX10_firstBroken 25 = .ok (.ifCond .eq 5, 3) := by decide +kernel
theorem dX10_firstBroken_28 : decode cX10_firstBroken 28 = .ok (.iload_n 2, 1) := by decide +kernel
theorem dX10_firstBroken_29 : decode cX10_firstBroken 29 = .ok (.ireturn, 1) := by decide +kernel
theorem dX10_firstBroken_30 : decode cX10_firstBroken 30 = .ok (.iinc 2 1, 3) := by decide +kernel
theorem dX10_firstBroken_33 : decode cX10_firstBroken 33 = .ok (.goto (-31), 3) := by decide +kernel
theorem dX10_firstBroken_36 : decode cX10_firstBroken 36 = .ok (.bipush (-9), 2) := by decide +kernel
theorem dX10_firstBroken_38 : decode cX10_firstBroken 38 = .ok (.ireturn, 1) := by decide +kernel
theorem dX10_clean_0 : decode cX10_clean 0 = .ok (.aload_n 0, 1) := by decide +kernel
theorem dX10_clean_1 : decode cX10_clean 1 = .ok (.iconst 0, 1) := by decide +kernel
theorem dX10_clean_2 : decode cX10_clean 2 = .ok (.putfield 93, 3) := by decide +kernel
theorem dX10_clean_5 : decode cX10_clean 5 = .ok (.aload_n 0, 1) := by decide +kernel
theorem dX10_clean_6 : decode cX10_clean 6 = .ok (.aload_n 0, 1) := by decide +kernel
theorem dX10_clean_7 : decode cX10_clean 7 = .ok (.invokevirtual 170, 3) := by decide +kernel
theorem dX10_clean_10 : decode cX10_clean 10 = .ok (.invokevirtual 190, 3) := by decide +kernel
theorem dX10_clean_13 : decode cX10_clean 13 = .ok (.bipush (-9), 2) := by decide +kernel
theorem dX10_clean_15 : decode cX10_clean 15 = .ok (.if_icmp .ne 7, 3) := by decide +kernel
theorem dX10_clean_18 : decode cX10_clean 18 = .ok (.iconst 1, 1) := by decide +kernel
theorem dX10_clean_19 : decode cX10_clean 19 = .ok (.goto 4, 3) := by decide +kernel
theorem dX10_clean_22 : decode cX10_clean 22 = .ok (.iconst 0, 1) := by decide +kernel
theorem dX10_clean_23 : decode cX10_clean 23 = .ok (.ireturn, 1) := by decide +kernel
theorem dX10_breaks_0 : decode cX10_breaks 0 = .ok (.aload_n 0, 1) := by decide +kernel
theorem dX10_breaks_1 : decode cX10_breaks 1 = .ok (.iconst 0, 1) := by decide +kernel
theorem dX10_breaks_2 : decode cX10_breaks 2 = .ok (.putfield 93, 3) := by decide +kernel
theorem dX10_breaks_5 : decode cX10_breaks 5 = .ok (.iload_n 1, 1) := by decide +kernel
theorem dX10_breaks_6 : decode cX10_breaks 6 = .ok (.aload_n 0, 1) := by decide +kernel
theorem dX10_breaks_7 : decode cX10_breaks 7 = .ok (.invokevirtual 170, 3) := by decide +kernel
theorem dX10_breaks_10 : decode cX10_breaks 10 = .ok (.iconst (-1), 1) := by decide +kernel
theorem dX10_breaks_11 : decode cX10_breaks 11 = .ok (.ixor, 1) := by decide +kernel
theorem dX10_breaks_12 : decode cX10_breaks 12 = .ok (.iand, 1) := by decide +kernel
theorem dX10_breaks_13 : decode cX10_breaks 13 = .ok (.ifCond .eq 8, 3) := by decide +kernel
theorem dX10_breaks_16 : decode cX10_breaks 16 = .ok (.bipush (-2), 2) := by decide +kernel
theorem dX10_breaks_18 : decode cX10_breaks 18 = .ok (.goto 8, 3) := by decide +kernel
theorem dX10_breaks_21 : decode cX10_breaks 21 = .ok (.aload_n 0, 1) := by decide +kernel
theorem dX10_breaks_22 : decode cX10_breaks 22 = .ok (.iload_n 1, 1) := by decide +kernel
theorem dX10_breaks_23 : decode cX10_breaks 23 = .ok (.invokevirtual 190, 3) := by decide +kernel
theorem dX10_breaks_26 : decode cX10_breaks 26 = .ok (.ireturn, 1) := by decide +kernel
theorem dX10_know_0 : decode cX10_know 0 = .ok (.aload_n 0, 1) := by decide +kernel
theorem dX10_know_1 : decode cX10_know 1 = .ok (.getfield 121, 3) := by decide +kernel
theorem dX10_know_4 : decode cX10_know 4 = .ok (.ifCond .eq 4, 3) := by decide +kernel
theorem dX10_know_7 : decode cX10_know 7 = .ok (.return_, 1) := by decide +kernel
theorem dX10_know_8 : decode cX10_know 8 = .ok (.aload_n 0, 1) := by decide +kernel
theorem dX10_know_9 : decode cX10_know 9 = .ok (.iconst 1, 1) := by decide +kernel
theorem dX10_know_10 : decode cX10_know 10 = .ok (.putfield 121, 3) := by decide +kernel
theorem dX10_know_13 : decode cX10_know 13 = .ok (.aload_n 0, 1) := by decide +kernel
theorem dX10_know_14 : decode cX10_know 14 = .ok (.invokevirtual 170, 3) := by decide +kernel
theorem dX10_know_17 : decode cX10_know 17 = .ok (.istore_n 1, 1) := by decide +kernel
theorem dX10_know_18 : decode cX10_know 18 = .ok (.aload_n 0, 1) := by decide +kernel
theorem dX10_know_19 : decode cX10_know 19 = .ok (.iconst 0, 1) := by decide +kernel
theorem dX10_know_20 : decode cX10_know 20 = .ok (.putfield 193, 3) := by decide +kernel
theorem dX10_know_23 : decode cX10_know 23 = .ok (.iconst 0, 1) := by decide +kernel
theorem dX10_know_24 : decode cX10_know 24 = .ok (.istore_n 2, 1) := by decide +kernel
theorem dX10_know_25 : decode cX10_know 25 = .ok (.iload_n 2, 1) := by decide +kernel
theorem dX10_know_26 : decode cX10_know 26 = .ok (.iconst 1, 1) := by decide +kernel
theorem dX10_know_27 : decode cX10_know 27 = .ok (.aload_n 0, 1) := by decide +kernel
theorem dX10_know_28 : decode cX10_know 28 = .ok (.getfield 106, 3) := by decide +kernel
theorem dX10_know_31 : decode cX10_know 31 = .ok (.ishl, 1) := by decide +kernel
theorem dX10_know_32 : decode cX10_know 32 = .ok (.if_icmp .ge 125, 3) := by decide +kernel
theorem dX10_know_35 : decode cX10_know 35 = .ok (.aload_n 0, 1) := by decide +kernel
theorem dX10_know_36 : decode cX10_know 36 = .ok (.getfield 81, 3) := by decide +kernel
theorem dX10_know_39 : decode cX10_know 39 = .ok (.iload_n 2, 1) := by decide +kernel
theorem dX10_know_40 : decode cX10_know 40 = .ok (.iload_n 2, 1) := by decide +kernel
theorem dX10_know_41 : decode cX10_know 41 = .ok (.iload_n 1, 1) := by decide +kernel
theorem dX10_know_42 : decode cX10_know 42 = .ok (.iconst (-1), 1) := by decide +kernel
theorem dX10_know_43 : decode cX10_know 43 = .ok (.ixor, 1) := by decide +kernel
theorem dX10_know_44 : decode cX10_know 44 = .ok (.iand, 1) := by decide +kernel
theorem dX10_know_45 : decode cX10_know 45 = .ok (.ifCond .ne 21, 3) := by decide +kernel
theorem dX10_know_48 : decode cX10_know 48 = .ok (.aload_n 0, 1) := by decide +kernel
theorem dX10_know_49 : decode cX10_know 49 = .ok (.iload_n 1, 1) := by decide +kernel
theorem dX10_know_50 : decode cX10_know 50 = .ok (.iload_n 2, 1) := by decide +kernel
theorem dX10_know_51 : decode cX10_know 51 = .ok (.iconst (-1), 1) := by decide +kernel
theorem dX10_know_52 : decode cX10_know 52 = .ok (.ixor, 1) := by decide +kernel
theorem dX10_know_53 : decode cX10_know 53 = .ok (.iand, 1) := by decide +kernel
theorem dX10_know_54 : decode cX10_know 54 = .ok (.invokevirtual 190, 3) := by decide +kernel
theorem dX10_know_57 : decode cX10_know 57 = .ok (.bipush (-9), 2) := by decide +kernel
theorem dX10_know_59 : decode cX10_know 59 = .ok (.if_icmp .ne 7, 3) := by decide +kernel
theorem dX10_know_62 : decode cX10_know 62 = .ok (.iconst 1, 1) := by decide +kernel
theorem dX10_know_63 : decode cX10_know 63 = .ok (.goto 4, 3) := by decide +kernel
theorem dX10_know_66 : decode cX10_know 66 = .ok (.iconst 0, 1) := by decide +kernel
theorem dX10_know_67 : decode cX10_know 67 = .ok (.bastore, 1) := by decide +kernel
theorem dX10_know_68 : decode cX10_know 68 = .ok (.aload_n 0, 1) := by decide +kernel
theorem dX10_know_69 : decode cX10_know 69 = .ok (.getfield 81, 3) := by decide +kernel
theorem dX10_know_72 : decode cX10_know 72 = .ok (.iload_n 2, 1) := by decide +kernel
theorem dX10_know_73 : decode cX10_know 73 = .ok (.baload, 1) := by decide +kernel
theorem dX10_know_74 : decode cX10_know 74 = .ok (.istore_n 3, 1) := by decide +kernel
theorem dX10_know_75 : decode cX10_know 75 = .ok (.iload_n 2, 1) := by decide +kernel
theorem dX10_know_76 : decode cX10_know 76 = .ok (.iconst 1, 1) := by decide +kernel
theorem dX10_know_77 : decode cX10_know 77 = .ok (.isub, 1) := by decide +kernel
theorem dX10_know_78 : decode cX10_know 78 = .ok (.iload_n 2, 1) := by decide +kernel
theorem dX10_know_79 : decode cX10_know 79 = .ok (.iand, 1) := by decide +kernel
theorem dX10_know_80 : decode cX10_know 80 = .ok (.istore 4, 2) := by decide +kernel
theorem dX10_know_82 : decode cX10_know 82 = .ok (.iload_n 3, 1) := by decide +kernel
theorem dX10_know_83 : decode cX10_know 83 = .ok (.ifCond .eq 44, 3) := by decide +kernel
theorem dX10_know_86 : decode cX10_know 86 = .ok (.iload 4, 2) := by decide +kernel
theorem dX10_know_88 : decode cX10_know 88 = .ok (.iload_n 2, 1) := by decide +kernel
theorem dX10_know_89 : decode cX10_know 89 = .ok (.if_icmp .eq 38, 3) := by decide +kernel
theorem dX10_know_92 : decode cX10_know 92 = .ok (.aload_n 0, 1) := by decide +kernel
theorem dX10_know_93 : decode cX10_know 93 = .ok (.getfield 81, 3) := by decide +kernel
theorem dX10_know_96 : decode cX10_know 96 = .ok (.iload 4, 2) := by decide +kernel
theorem dX10_know_98 : decode cX10_know 98 = .ok (.baload, 1) := by decide +kernel
theorem dX10_know_99 : decode cX10_know 99 = .ok (.ifCond .ne 7, 3) := by decide +kernel
theorem dX10_know_102 : decode cX10_know 102 = .ok (.iconst 1, 1) := by decide +kernel
theorem dX10_know_103 : decode cX10_know 103 = .ok (.goto 4, 3) := by decide +kernel
theorem dX10_know_106 : decode cX10_know 106 = .ok (.iconst 0, 1) := by decide +kernel
theorem dX10_know_107 : decode cX10_know 107 = .ok (.istore_n 3, 1) := by decide +kernel
theorem dX10_know_108 : decode cX10_know 108 = .ok (.iload 4, 2) := by decide +kernel
theorem dX10_know_110 : decode cX10_know 110 = .ok (.ifCond .ne 6, 3) := by decide +kernel
theorem dX10_know_113 : decode cX10_know 113 = .ok (.goto 14, 3) := by decide +kernel
theorem dX10_know_116 : decode cX10_know 116 = .ok (.iload 4, 2) := by decide +kernel
theorem dX10_know_118 : decode cX10_know 118 = .ok (.iconst 1, 1) := by decide +kernel
theorem dX10_know_119 : decode cX10_know 119 = .ok (.isub, 1) := by decide +kernel
theorem dX10_know_120 : decode cX10_know 120 = .ok (.iload_n 2, 1) := by decide +kernel
theorem dX10_know_121 : decode cX10_know 121 = .ok (.iand, 1) := by decide +kernel
theorem dX10_know_122 : decode cX10_know 122 = .ok (.istore 4, 2) := by decide +kernel
theorem dX10_know_124 : decode cX10_know 124 = .ok (.goto (-42), 3) := by decide +kernel
theorem dX10_know_127 : decode cX10_know 127 = .ok (.iload_n 3, 1) := by decide +kernel
theorem dX10_know_128 : decode cX10_know 128 = .ok (.ifCond .eq 23, 3) := by decide +kernel
theorem dX10_know_131 : decode cX10_know 131 = .ok (.aload_n 0, 1) := by decide +kernel
theorem dX10_know_132 : decode cX10_know 132 = .ok (.getfield 78, 3) := by decide +kernel
theorem dX10_know_135 : decode cX10_know 135 = .ok (.aload_n 0, 1) := by decide +kernel
theorem dX10_know_136 : decode cX10_know 136 = .ok (.getfield 193, 3) := by decide +kernel
theorem dX10_know_139 : decode cX10_know 139 = .ok (.iload_n 2, 1) := by decide +kernel
theorem dX10_know_140 : decode cX10_know 140 = .ok (.iastore, 1) := by decide +kernel
theorem dX10_know_141 : decode cX10_know 141 = .ok (.aload_n 0, 1) := by decide +kernel
theorem dX10_know_142 : decode cX10_know 142 = .ok (.dup, 1) := by decide +kernel
theorem dX10_know_143 : decode cX10_know 143 = .ok (.getfield 193, 3) := by decide +kernel
theorem dX10_know_146 : decode cX10_know 146 = .ok (.iconst 1, 1) := by decide +kernel
theorem dX10_know_147 : decode cX10_know 147 = .ok (.iadd, 1) := by decide +kernel
theorem dX10_know_148 : decode cX10_know 148 = .ok (.putfield 193, 3) := by decide +kernel
theorem dX10_know_151 : decode cX10_know 151 = .ok (.iinc 2 1, 3) := by decide +kernel
theorem dX10_know_154 : decode cX10_know 154 = .ok (.goto (-129), 3) := by decide +kernel
theorem dX10_know_157 : decode cX10_know 157 = .ok (.return_, 1) := by decide +kernel
theorem dX10_priceOf_0 : decode cX10_priceOf 0 = .ok (.iconst 0, 1) := by decide +kernel
theorem dX10_priceOf_1 : decode cX10_priceOf 1 = .ok (.istore_n 2, 1) := by decide +kernel
theorem dX10_priceOf_2 : decode cX10_priceOf 2 = .ok (.iconst 0, 1) := by decide +kernel
theorem dX10_priceOf_3 : decode cX10_priceOf 3 = .ok (.istore_n 3, 1) := by decide +kernel
theorem dX10_priceOf_4 : decode cX10_priceOf 4 = .ok (.iload_n 3, 1) := by decide +kernel
theorem dX10_priceOf_5 : decode cX10_priceOf 5 = .ok (.aload_n 0, 1) := by decide +kernel
theorem dX10_priceOf_6 : decode cX10_priceOf 6 = .ok (.getfield 106, 3) := by decide +kernel
theorem dX10_priceOf_9 : decode cX10_priceOf 9 = .ok (.if_icmp .ge 31, 3) := by decide +kernel
theorem dX10_priceOf_12 : decode cX10_priceOf 12 = .ok (.iload_n 2, 1) := by decide +kernel
theorem dX10_priceOf_13 : decode cX10_priceOf 13 = .ok (.iload_n 1, 1) := by decide +kernel
theorem dX10_priceOf_14 : decode cX10_priceOf 14 = .ok (.iload_n 3, 1) := by decide +kernel
theorem dX10_priceOf_15 : decode cX10_priceOf 15 = .ok (.ishr, 1) := by decide +kernel
theorem dX10_priceOf_16 : decode cX10_priceOf 16 = .ok (.iconst 1, 1) := by decide +kernel
theorem dX10_priceOf_17 : decode cX10_priceOf 17 = .ok (.iand, 1) := by decide +kernel
theorem dX10_priceOf_18 : decode cX10_priceOf 18 = .ok (.iconst 1, 1) := by decide +kernel
theorem dX10_priceOf_19 : decode cX10_priceOf 19 = .ok (.if_icmp .ne 12, 3) := by decide +kernel
theorem dX10_priceOf_22 : decode cX10_priceOf 22 = .ok (.aload_n 0, 1) := by decide +kernel
theorem dX10_priceOf_23 : decode cX10_priceOf 23 = .ok (.getfield 19, 3) := by decide +kernel
theorem dX10_priceOf_26 : decode cX10_priceOf 26 = .ok (.iload_n 3, 1) := by decide +kernel
theorem dX10_priceOf_27 : decode cX10_priceOf 27 = .ok (.iaload, 1) := by decide +kernel
theorem dX10_priceOf_28 : decode cX10_priceOf 28 = .ok (.goto 4, 3) := by decide +kernel
theorem dX10_priceOf_31 : decode cX10_priceOf 31 = .ok (.iconst 0, 1) := by decide +kernel
theorem dX10_priceOf_32 : decode cX10_priceOf 32 = .ok (.iadd, 1) := by decide +kernel
theorem dX10_priceOf_33 : decode cX10_priceOf 33 = .ok (.istore_n 2, 1) := by decide +kernel
theorem dX10_priceOf_34 : decode cX10_priceOf 34 = .ok (.iinc 3 1, 3) := by decide +kernel
theorem dX10_priceOf_37 : decode cX10_priceOf 37 = .ok (.goto (-33), 3) := by decide +kernel
theorem dX10_priceOf_40 : decode cX10_priceOf 40 = .ok (.iload_n 2, 1) := by decide +kernel
theorem dX10_priceOf_41 : decode cX10_priceOf 41 = .ok (.ireturn, 1) := by decide +kernel
theorem dX10_bestOf_0 : decode cX10_bestOf 0 = .ok (.aload_n 0, 1) := by decide +kernel
theorem dX10_bestOf_1 : decode cX10_bestOf 1 = .ok (.invokevirtual 196, 3) := by decide +kernel
theorem dX10_bestOf_4 : decode cX10_bestOf 4 = .ok (.aload_n 0, 1) := by decide +kernel
theorem dX10_bestOf_5 : decode cX10_bestOf 5 = .ok (.getfield 78, 3) := by decide +kernel
theorem dX10_bestOf_8 : decode cX10_bestOf 8 = .ok (.iconst 0, 1) := by decide +kernel
theorem dX10_bestOf_9 : decode cX10_bestOf 9 = .ok (.iaload, 1) := by decide +kernel
theorem dX10_bestOf_10 : decode cX10_bestOf 10 = .ok (.istore_n 1, 1) := by decide +kernel
theorem dX10_bestOf_11 : decode cX10_bestOf 11 = .ok (.iconst 1, 1) := by decide +kernel
theorem dX10_bestOf_12 : decode cX10_bestOf 12 = .ok (.istore_n 2, 1) := by decide +kernel
theorem dX10_bestOf_13 : decode cX10_bestOf 13 = .ok (.iload_n 2, 1) := by decide +kernel
theorem dX10_bestOf_14 : decode cX10_bestOf 14 = .ok (.aload_n 0, 1) := by decide +kernel
theorem dX10_bestOf_15 : decode cX10_bestOf 15 = .ok (.getfield 193, 3) := by decide +kernel
theorem dX10_bestOf_18 : decode cX10_bestOf 18 = .ok (.if_icmp .ge 38, 3) := by decide +kernel
theorem dX10_bestOf_21 : decode cX10_bestOf 21 = .ok (.aload_n 0, 1) := by decide +kernel
theorem dX10_bestOf_22 : decode cX10_bestOf 22 = .ok (.aload_n 0, 1) := by decide +kernel
theorem dX10_bestOf_23 : decode cX10_bestOf 23 = .ok (.getfield 78, 3) := by decide +kernel
theorem dX10_bestOf_26 : decode cX10_bestOf 26 = .ok (.iload_n 2, 1) := by decide +kernel
theorem dX10_bestOf_27 : decode cX10_bestOf 27 = .ok (.iaload, 1) := by decide +kernel
theorem dX10_bestOf_28 : decode cX10_bestOf 28 = .ok (.invokevirtual 199, 3) := by decide +kernel
theorem dX10_bestOf_31 : decode cX10_bestOf 31 = .ok (.aload_n 0, 1) := by decide +kernel
theorem dX10_bestOf_32 : decode cX10_bestOf 32 = .ok (.iload_n 1, 1) := by decide +kernel
theorem dX10_bestOf_33 : decode cX10_bestOf 33 = .ok (.invokevirtual 199, 3) := by decide +kernel
theorem dX10_bestOf_36 : decode cX10_bestOf 36 = .ok (.if_icmp .ge 12, 3) := by decide +kernel
theorem dX10_bestOf_39 : decode cX10_bestOf 39 = .ok (.aload_n 0, 1) := by decide +kernel
theorem dX10_bestOf_40 : decode cX10_bestOf 40 = .ok (.getfield 78, 3) := by decide +kernel
theorem dX10_bestOf_43 : decode cX10_bestOf 43 = .ok (.iload_n 2, 1) := by decide +kernel
theorem dX10_bestOf_44 : decode cX10_bestOf 44 = .ok (.iaload, 1) := by decide +kernel
theorem dX10_bestOf_45 : decode cX10_bestOf 45 = .ok (.goto 4, 3) := by decide +kernel
theorem dX10_bestOf_48 : decode cX10_bestOf 48 = .ok (.iload_n 1, 1) := by decide +kernel
theorem dX10_bestOf_49 : decode cX10_bestOf 49 = .ok (.istore_n 1, 1) := by decide +kernel
theorem dX10_bestOf_50 : decode cX10_bestOf 50 = .ok (.iinc 2 1, 3) := by decide +kernel
theorem dX10_bestOf_53 : decode cX10_bestOf 53 = .ok (.goto (-40), 3) := by decide +kernel
theorem dX10_bestOf_56 : decode cX10_bestOf 56 = .ok (.iload_n 1, 1) := by decide +kernel
theorem dX10_bestOf_57 : decode cX10_bestOf 57 = .ok (.ireturn, 1) := by decide +kernel
theorem dX10_mends_0 : decode cX10_mends 0 = .ok (.aload_n 0, 1) := by decide +kernel
theorem dX10_mends_1 : decode cX10_mends 1 = .ok (.iconst 0, 1) := by decide +kernel
theorem dX10_mends_2 : decode cX10_mends 2 = .ok (.putfield 93, 3) := by decide +kernel
theorem dX10_mends_5 : decode cX10_mends 5 = .ok (.aload_n 0, 1) := by decide +kernel
theorem dX10_mends_6 : decode cX10_mends 6 = .ok (.invokevirtual 196, 3) := by decide +kernel
theorem dX10_mends_9 : decode cX10_mends 9 = .ok (.aload_n 0, 1) := by decide +kernel
theorem dX10_mends_10 : decode cX10_mends 10 = .ok (.getfield 193, 3) := by decide +kernel
theorem dX10_mends_13 : decode cX10_mends 13 = .ok (.ireturn, 1) := by decide +kernel
theorem dX10_mending_0 : decode cX10_mending 0 = .ok (.aload_n 0, 1) := by decide +kernel
theorem dX10_mending_1 : decode cX10_mending 1 = .ok (.iconst 0, 1) := by decide +kernel
theorem dX10_mending_2 : decode cX10_mending 2 = .ok (.putfield 93, 3) := by decide +kernel
theorem dX10_mending_5 : decode cX10_mending 5 = .ok (.aload_n 0, 1) := by decide +kernel
theorem dX10_mending_6 : decode cX10_mending 6 = .ok (.invokevirtual 196, 3) := by decide +kernel
theorem dX10_mending_9 : decode cX10_mending 9 = .ok (.iload_n 1, 1) := by decide +kernel
theorem dX10_mending_10 : decode cX10_mending 10 = .ok (.i2l, 1) := by decide +kernel
theorem dX10_mending_11 : decode cX10_mending 11 = .ok (.lconst 0, 1) := by decide +kernel
theorem dX10_mending_12 : decode cX10_mending 12 = .ok (.aload_n 0, 1) := by decide +kernel
theorem dX10_mending_13 : decode cX10_mending 13 = .ok (.getfield 193, 3) := by decide +kernel
theorem dX10_mending_16 : decode cX10_mending 16 = .ok (.iconst 1, 1) := by decide +kernel
theorem dX10_mending_17 : decode cX10_mending 17 = .ok (.isub, 1) := by decide +kernel
theorem dX10_mending_18 : decode cX10_mending 18 = .ok (.i2l, 1) := by decide +kernel
theorem dX10_mending_19 : decode cX10_mending 19 = .ok (.invokestatic 102, 3) := by decide +kernel
theorem dX10_mending_22 : decode cX10_mending 22 = .ok (.ifCond .eq 12, 3) := by decide +kernel
theorem dX10_mending_25 : decode cX10_mending 25 = .ok (.aload_n 0, 1) := by decide +kernel
theorem dX10_mending_26 : decode cX10_mending 26 = .ok (.getfield 78, 3) := by decide +kernel
theorem dX10_mending_29 : decode cX10_mending 29 = .ok (.iload_n 1, 1) := by decide +kernel
theorem dX10_mending_30 : decode cX10_mending 30 = .ok (.iaload, 1) := by decide +kernel
theorem dX10_mending_31 : decode cX10_mending 31 = .ok (.goto 5, 3) := by decide +kernel
theorem dX10_mending_34 : decode cX10_mending 34 = .ok (.bipush (-9), 2) := by decide +kernel
theorem dX10_mending_36 : decode cX10_mending 36 = .ok (.ireturn, 1) := by decide +kernel
theorem dX10_price_0 : decode cX10_price 0 = .ok (.aload_n 0, 1) := by decide +kernel
theorem dX10_price_1 : decode cX10_price 1 = .ok (.iconst 0, 1) := by decide +kernel
theorem dX10_price_2 : decode cX10_price 2 = .ok (.putfield 93, 3) := by decide +kernel
theorem dX10_price_5 : decode cX10_price 5 = .ok (.aload_n 0, 1) := by decide +kernel
theorem dX10_price_6 : decode cX10_price 6 = .ok (.aload_n 0, 1) := by decide +kernel
theorem dX10_price_7 : decode cX10_price 7 = .ok (.invokevirtual 202, 3) := by decide +kernel
theorem dX10_price_10 : decode cX10_price 10 = .ok (.invokevirtual 199, 3) := by decide +kernel
theorem dX10_price_13 : decode cX10_price 13 = .ok (.ireturn, 1) := by decide +kernel
theorem dX10_best_0 : decode cX10_best 0 = .ok (.aload_n 0, 1) := by decide +kernel
theorem dX10_best_1 : decode cX10_best 1 = .ok (.iconst 0, 1) := by decide +kernel
theorem dX10_best_2 : decode cX10_best 2 = .ok (.putfield 93, 3) := by decide +kernel
theorem dX10_best_5 : decode cX10_best 5 = .ok (.aload_n 0, 1) := by decide +kernel
theorem dX10_best_6 : decode cX10_best 6 = .ok (.invokevirtual 202, 3) := by decide +kernel
theorem dX10_best_9 : decode cX10_best 9 = .ok (.ireturn, 1) := by decide +kernel
theorem dX10_blame_0 : decode cX10_blame 0 = .ok (.aload_n 0, 1) := by decide +kernel
theorem dX10_blame_1 : decode cX10_blame 1 = .ok (.iconst 0, 1) := by decide +kernel
theorem dX10_blame_2 : decode cX10_blame 2 = .ok (.putfield 93, 3) := by decide +kernel
theorem dX10_blame_5 : decode cX10_blame 5 = .ok (.aload_n 0, 1) := by decide +kernel
theorem dX10_blame_6 : decode cX10_blame 6 = .ok (.iload_n 1, 1) := by decide +kernel
theorem dX10_blame_7 : decode cX10_blame 7 = .ok (.invokevirtual 125, 3) := by decide +kernel
theorem dX10_blame_10 : decode cX10_blame 10 = .ok (.ifCond .eq 5, 3) := by decide +kernel
theorem dX10_blame_13 : decode cX10_blame 13 = .ok (.iconst (-1), 1) := by decide +kernel
theorem dX10_blame_14 : decode cX10_blame 14 = .ok (.ireturn, 1) := by decide +kernel
theorem dX10_blame_15 : decode cX10_blame 15 = .ok (.aload_n 0, 1) := by decide +kernel
theorem dX10_blame_16 : decode cX10_blame 16 = .ok (.invokevirtual 196, 3) := by decide +kernel
theorem dX10_blame_19 : decode cX10_blame 19 = .ok (.iconst 0, 1) := by decide +kernel
theorem dX10_blame_20 : decode cX10_blame 20 = .ok (.istore_n 2, 1) := by decide +kernel
theorem dX10_blame_21 : decode cX10_blame 21 = .ok (.iconst 0, 1) := by decide +kernel
theorem dX10_blame_22 : decode cX10_blame 22 = .ok (.istore_n 3, 1) := by decide +kernel
theorem dX10_blame_23 : decode cX10_blame 23 = .ok (.iload_n 3, 1) := by decide +kernel
theorem dX10_blame_24 : decode cX10_blame 24 = .ok (.aload_n 0, 1) := by decide +kernel
theorem dX10_blame_25 : decode cX10_blame 25 = .ok (.getfield 193, 3) := by decide +kernel
theorem dX10_blame_28 : decode cX10_blame 28 = .ok (.if_icmp .ge 22, 3) := by decide +kernel
theorem dX10_blame_31 : decode cX10_blame 31 = .ok (.iload_n 2, 1) := by decide +kernel
theorem dX10_blame_32 : decode cX10_blame 32 = .ok (.aload_n 0, 1) := by decide +kernel
theorem dX10_blame_33 : decode cX10_blame 33 = .ok (.getfield 78, 3) := by decide +kernel
theorem dX10_blame_36 : decode cX10_blame 36 = .ok (.iload_n 3, 1) := by decide +kernel
theorem dX10_blame_37 : decode cX10_blame 37 = .ok (.iaload, 1) := by decide +kernel
theorem dX10_blame_38 : decode cX10_blame 38 = .ok (.iload_n 1, 1) := by decide +kernel
theorem dX10_blame_39 : decode cX10_blame 39 = .ok (.ishr, 1) := by decide +kernel
theorem dX10_blame_40 : decode cX10_blame 40 = .ok (.iconst 1, 1) := by decide +kernel
theorem dX10_blame_41 : decode cX10_blame 41 = .ok (.iand, 1) := by decide +kernel
theorem dX10_blame_42 : decode cX10_blame 42 = .ok (.iadd, 1) := by decide +kernel
theorem dX10_blame_43 : decode cX10_blame 43 = .ok (.istore_n 2, 1) := by decide +kernel
theorem dX10_blame_44 : decode cX10_blame 44 = .ok (.iinc 3 1, 3) := by decide +kernel
theorem dX10_blame_47 : decode cX10_blame 47 = .ok (.goto (-24), 3) := by decide +kernel
theorem dX10_blame_50 : decode cX10_blame 50 = .ok (.iload_n 2, 1) := by decide +kernel
theorem dX10_blame_51 : decode cX10_blame 51 = .ok (.ireturn, 1) := by decide +kernel
theorem dX10_sum_0 : decode cX10_sum 0 = .ok (.aload_n 0, 1) := by decide +kernel
theorem dX10_sum_1 : decode cX10_sum 1 = .ok (.iconst 0, 1) := by decide +kernel
theorem dX10_sum_2 : decode cX10_sum 2 = .ok (.putfield 93, 3) := by decide +kernel
theorem dX10_sum_5 : decode cX10_sum 5 = .ok (.aload_n 0, 1) := by decide +kernel
theorem dX10_sum_6 : decode cX10_sum 6 = .ok (.iload_n 1, 1) := by decide +kernel
theorem dX10_sum_7 : decode cX10_sum 7 = .ok (.invokevirtual 116, 3) := by decide +kernel
theorem dX10_sum_10 : decode cX10_sum 10 = .ok (.ifCond .eq 14, 3) := by decide +kernel
theorem dX10_sum_13 : decode cX10_sum 13 = .ok (.aload_n 0, 1) := by decide +kernel
theorem dX10_sum_14 : decode cX10_sum 14 = .ok (.aload_n 0, 1) := by decide +kernel
theorem dX10_sum_15 : decode cX10_sum 15 = .ok (.iload_n 1, 1) := by decide +kernel
theorem dX10_sum_16 : decode cX10_sum 16 = .ok (.invokevirtual 116, 3) := by decide +kernel
theorem dX10_sum_19 : decode cX10_sum 19 = .ok (.invokevirtual 112, 3) := by decide +kernel
theorem dX10_sum_22 : decode cX10_sum 22 = .ok (.i2l, 1) := by decide +kernel
theorem dX10_sum_23 : decode cX10_sum 23 = .ok (.lreturn, 1) := by decide +kernel
theorem dX10_sum_24 : decode cX10_sum 24 = .ok (.aload_n 0, 1) := by decide +kernel
theorem dX10_sum_25 : decode cX10_sum 25 = .ok (.iload_n 1, 1) := by decide +kernel
theorem dX10_sum_26 : decode cX10_sum 26 = .ok (.iload_n 2, 1) := by decide +kernel
theorem dX10_sum_27 : decode cX10_sum 27 = .ok (.invokevirtual 129, 3) := by decide +kernel
theorem dX10_sum_30 : decode cX10_sum 30 = .ok (.ifCond .eq 11, 3) := by decide +kernel
theorem dX10_sum_33 : decode cX10_sum 33 = .ok (.aload_n 0, 1) := by decide +kernel
theorem dX10_sum_34 : decode cX10_sum 34 = .ok (.bipush (-12), 2) := by decide +kernel
theorem dX10_sum_36 : decode cX10_sum 36 = .ok (.invokevirtual 112, 3) := by decide +kernel
theorem dX10_sum_39 : decode cX10_sum 39 = .ok (.i2l, 1) := by decide +kernel
theorem dX10_sum_40 : decode cX10_sum 40 = .ok (.lreturn, 1) := by decide +kernel
theorem dX10_sum_41 : decode cX10_sum 41 = .ok (.aload_n 0, 1) := by decide +kernel
theorem dX10_sum_42 : decode cX10_sum 42 = .ok (.invokevirtual 196, 3) := by decide +kernel
theorem dX10_sum_45 : decode cX10_sum 45 = .ok (.aload_n 0, 1) := by decide +kernel
theorem dX10_sum_46 : decode cX10_sum 46 = .ok (.invokevirtual 170, 3) := by decide +kernel
theorem dX10_sum_49 : decode cX10_sum 49 = .ok (.istore 4, 2) := by decide +kernel
theorem dX10_sum_51 : decode cX10_sum 51 = .ok (.lconst 0, 1) := by decide +kernel
theorem dX10_sum_52 : decode cX10_sum 52 = .ok (.lstore 5, 2) := by decide +kernel
theorem dX10_sum_54 : decode cX10_sum 54 = .ok (.iconst 0, 1) := by decide +kernel
theorem dX10_sum_55 : decode cX10_sum 55 = .ok (.istore 7, 2) := by decide +kernel
theorem dX10_sum_57 : decode cX10_sum 57 = .ok (.iload 7, 2) := by decide +kernel
theorem dX10_sum_59 : decode cX10_sum 59 = .ok (.aload_n 0, 1) := by decide +kernel
theorem dX10_sum_60 : decode cX10_sum 60 = .ok (.getfield 193, 3) := by decide +kernel
theorem dX10_sum_63 : decode cX10_sum 63 = .ok (.if_icmp .ge 147, 3) := by decide +kernel
theorem dX10_sum_66 : decode cX10_sum 66 = .ok (.lconst 0, 1) := by decide +kernel
theorem dX10_sum_67 : decode cX10_sum 67 = .ok (.lstore 8, 2) := by decide +kernel
theorem dX10_sum_69 : decode cX10_sum 69 = .ok (.iconst 0, 1) := by decide +kernel
theorem dX10_sum_70 : decode cX10_sum 70 = .ok (.istore 10, 2) := by decide +kernel
theorem dX10_sum_72 : decode cX10_sum 72 = .ok (.iload 10, 2) := by decide +kernel
theorem dX10_sum_74 : decode cX10_sum 74 = .ok (.aload_n 0, 1) := by decide +kernel
theorem dX10_sum_75 : decode cX10_sum 75 = .ok (.getfield 106, 3) := by decide +kernel
theorem dX10_sum_78 : decode cX10_sum 78 = .ok (.if_icmp .ge 89, 3) := by decide +kernel
theorem dX10_sum_81 : decode cX10_sum 81 = .ok (.iload 4, 2) := by decide +kernel
theorem dX10_sum_83 : decode cX10_sum 83 = .ok (.aload_n 0, 1) := by decide +kernel
theorem dX10_sum_84 : decode cX10_sum 84 = .ok (.getfield 78, 3) := by decide +kernel
theorem dX10_sum_87 : decode cX10_sum 87 = .ok (.iload 7, 2) := by decide +kernel
theorem dX10_sum_89 : decode cX10_sum 89 = .ok (.iaload, 1) := by decide +kernel
theorem dX10_sum_90 : decode cX10_sum 90 = .ok (.iconst (-1), 1) := by decide +kernel
theorem dX10_sum_91 : decode cX10_sum 91 = .ok (.ixor, 1) := by decide +kernel
theorem dX10_sum_92 : decode cX10_sum 92 = .ok (.iand, 1) := by decide +kernel
theorem dX10_sum_93 : decode cX10_sum 93 = .ok (.iload 10, 2) := by decide +kernel
theorem dX10_sum_95 : decode cX10_sum 95 = .ok (.ishr, 1) := by decide +kernel
theorem dX10_sum_96 : decode cX10_sum 96 = .ok (.iconst 1, 1) := by decide +kernel
theorem dX10_sum_97 : decode cX10_sum 97 = .ok (.iand, 1) := by decide +kernel
theorem dX10_sum_98 : decode cX10_sum 98 = .ok (.iconst 1, 1) := by decide +kernel
theorem dX10_sum_99 : decode cX10_sum 99 = .ok (.if_icmp .ne 33, 3) := by decide +kernel
theorem dX10_sum_102 : decode cX10_sum 102 = .ok (.aload_n 0, 1) := by decide +kernel
theorem dX10_sum_103 : decode cX10_sum 103 = .ok (.getfield 16, 3) := by decide +kernel
theorem dX10_sum_106 : decode cX10_sum 106 = .ok (.iload 10, 2) := by decide +kernel
theorem dX10_sum_108 : decode cX10_sum 108 = .ok (.iaload, 1) := by decide +kernel
theorem dX10_sum_109 : decode cX10_sum 109 = .ok (.iload_n 1, 1) := by decide +kernel
theorem dX10_sum_110 : decode cX10_sum 110 = .ok (.if_icmp .ne 22, 3) := by decide +kernel
theorem dX10_sum_113 : decode cX10_sum 113 = .ok (.aload_n 0, 1) := by decide +kernel
theorem dX10_sum_114 : decode cX10_sum 114 = .ok (.getfield 26, 3) := by decide +kernel
theorem dX10_sum_117 : decode cX10_sum 117 = .ok (.bipush 6, 2) := by decide +kernel
theorem dX10_sum_119 : decode cX10_sum 119 = .ok (.iload 10, 2) := by decide +kernel
theorem dX10_sum_121 : decode cX10_sum 121 = .ok (.imul, 1) := by decide +kernel
theorem dX10_sum_122 : decode cX10_sum 122 = .ok (.iload_n 2, 1) := by decide +kernel
theorem dX10_sum_123 : decode cX10_sum 123 = .ok (.iadd, 1) := by decide +kernel
theorem dX10_sum_124 : decode cX10_sum 124 = .ok (.baload, 1) := by decide +kernel
theorem dX10_sum_125 : decode cX10_sum 125 = .ok (.ifCond .eq 7, 3) := by decide +kernel
theorem dX10_sum_128 : decode cX10_sum 128 = .ok (.iconst 1, 1) := by decide +kernel
theorem dX10_sum_129 : decode cX10_sum 129 = .ok (.goto 4, 3) := by decide +kernel
theorem dX10_sum_132 : decode cX10_sum 132 = .ok (.iconst 0, 1) := by decide +kernel
theorem dX10_sum_133 : decode cX10_sum 133 = .ok (.istore 11, 2) := by decide +kernel
theorem dX10_sum_135 : decode cX10_sum 135 = .ok (.lload 8, 2) := by decide +kernel
theorem dX10_sum_137 : decode cX10_sum 137 = .ok (.iload 11, 2) := by decide +kernel
theorem dX10_sum_139 : decode cX10_sum 139 = .ok (.ifCond .eq 18, 3) := by decide +kernel
theorem dX10_sum_142 : decode cX10_sum 142 = .ok (.aload_n 0, 1) := by decide +kernel
theorem dX10_sum_143 : decode cX10_sum 143 = .ok (.getfield 29, 3) := by decide +kernel
theorem dX10_sum_146 : decode cX10_sum 146 = .ok (.bipush 6, 2) := by decide +kernel
theorem dX10_sum_148 : decode cX10_sum 148 = .ok (.iload 10, 2) := by decide +kernel
theorem dX10_sum_150 : decode cX10_sum 150 = .ok (.imul, 1) := by decide +kernel
theorem dX10_sum_151 : decode cX10_sum 151 = .ok (.iload_n 2, 1) := by decide +kernel
theorem dX10_sum_152 : decode cX10_sum 152 = .ok (.iadd, 1) := by decide +kernel
theorem dX10_sum_153 : decode cX10_sum 153 = .ok (.laload, 1) := by decide +kernel
theorem dX10_sum_154 : decode cX10_sum 154 = .ok (.goto 4, 3) := by decide +kernel
theorem dX10_sum_157 : decode cX10_sum 157 = .ok (.lconst 0, 1) := by decide +kernel
theorem dX10_sum_158 : decode cX10_sum 158 = .ok (.ladd, 1) := by decide +kernel
theorem dX10_sum_159 : decode cX10_sum 159 = .ok (.lstore 8, 2) := by decide +kernel
theorem dX10_sum_161 : decode cX10_sum 161 = .ok (.iinc 10 1, 3) := by decide +kernel
theorem dX10_sum_164 : decode cX10_sum 164 = .ok (.goto (-92), 3) := by decide +kernel
theorem dX10_sum_167 : decode cX10_sum 167 = .ok (.iload 7, 2) := by decide +kernel
theorem dX10_sum_169 : decode cX10_sum 169 = .ok (.ifCond .eq 26, 3) := by decide +kernel
theorem dX10_sum_172 : decode cX10_sum 172 = .ok (.iload_n 3, 1) := by decide +kernel
theorem dX10_sum_173 : decode cX10_sum 173 = .ok (.ifCond .eq 14, 3) := by decide +kernel
theorem dX10_sum_176 : decode cX10_sum 176 = .ok (.lload 8, 2) := by decide +kernel
theorem dX10_sum_178 : decode cX10_sum 178 = .ok (.lload 5, 2) := by decide +kernel
theorem dX10_sum_180 : decode cX10_sum 180 = .ok (.lcmp, 1) := by decide +kernel
theorem dX10_sum_181 : decode cX10_sum 181 = .ok (.ifCond .le 19, 3) := by decide +kernel
theorem dX10_sum_184 : decode cX10_sum 184 = .ok (.goto 11, 3) := by decide +kernel
theorem dX10_sum_187 : decode cX10_sum 187 = .ok (.lload 8, 2) := by decide +kernel
theorem dX10_sum_189 : decode cX10_sum 189 = .ok (.lload 5, 2) := by decide +kernel
theorem dX10_sum_191 : decode cX10_sum 191 = .ok (.lcmp, 1) := by decide +kernel
theorem dX10_sum_192 : decode cX10_sum 192 = .ok (.ifCond .ge 8, 3) := by decide +kernel
theorem dX10_sum_195 : decode cX10_sum 195 = .ok (.lload 8, 2) := by decide +kernel
theorem dX10_sum_197 : decode cX10_sum 197 = .ok (.goto 5, 3) := by decide +kernel
theorem dX10_sum_200 : decode cX10_sum 200 = .ok (.lload 5, 2) := by decide +kernel
theorem dX10_sum_202 : decode cX10_sum 202 = .ok (.lstore 5, 2) := by decide +kernel
theorem dX10_sum_204 : decode cX10_sum 204 = .ok (.iinc 7 1, 3) := by decide +kernel
theorem dX10_sum_207 : decode cX10_sum 207 = .ok (.goto (-150), 3) := by decide +kernel
theorem dX10_sum_210 : decode cX10_sum 210 = .ok (.lload 5, 2) := by decide +kernel
theorem dX10_sum_212 : decode cX10_sum 212 = .ok (.lreturn, 1) := by decide +kernel
theorem dX10_mend_0 : decode cX10_mend 0 = .ok (.aload_n 0, 1) := by decide +kernel
theorem dX10_mend_1 : decode cX10_mend 1 = .ok (.iconst 0, 1) := by decide +kernel
theorem dX10_mend_2 : decode cX10_mend 2 = .ok (.putfield 93, 3) := by decide +kernel
theorem dX10_mend_5 : decode cX10_mend 5 = .ok (.aload_n 0, 1) := by decide +kernel
theorem dX10_mend_6 : decode cX10_mend 6 = .ok (.invokevirtual 202, 3) := by decide +kernel
theorem dX10_mend_9 : decode cX10_mend 9 = .ok (.istore_n 1, 1) := by decide +kernel
theorem dX10_mend_10 : decode cX10_mend 10 = .ok (.iconst 0, 1) := by decide +kernel
theorem dX10_mend_11 : decode cX10_mend 11 = .ok (.istore_n 2, 1) := by decide +kernel
theorem dX10_mend_12 : decode cX10_mend 12 = .ok (.iload_n 2, 1) := by decide +kernel
theorem dX10_mend_13 : decode cX10_mend 13 = .ok (.aload_n 0, 1) := by decide +kernel
theorem dX10_mend_14 : decode cX10_mend 14 = .ok (.getfield 106, 3) := by decide +kernel
theorem dX10_mend_17 : decode cX10_mend 17 = .ok (.if_icmp .ge 37, 3) := by decide +kernel
theorem dX10_mend_20 : decode cX10_mend 20 = .ok (.aload_n 0, 1) := by decide +kernel
theorem dX10_mend_21 : decode cX10_mend 21 = .ok (.getfield 22, 3) := by decide +kernel
theorem dX10_mend_24 : decode cX10_mend 24 = .ok (.iload_n 2, 1) := by decide +kernel
theorem dX10_mend_25 : decode cX10_mend 25 = .ok (.aload_n 0, 1) := by decide +kernel
theorem dX10_mend_26 : decode cX10_mend 26 = .ok (.getfield 22, 3) := by decide +kernel
theorem dX10_mend_29 : decode cX10_mend 29 = .ok (.iload_n 2, 1) := by decide +kernel
theorem dX10_mend_30 : decode cX10_mend 30 = .ok (.baload, 1) := by decide +kernel
theorem dX10_mend_31 : decode cX10_mend 31 = .ok (.ifCond .eq 15, 3) := by decide +kernel
theorem dX10_mend_34 : decode cX10_mend 34 = .ok (.iload_n 1, 1) := by decide +kernel
theorem dX10_mend_35 : decode cX10_mend 35 = .ok (.iload_n 2, 1) := by decide +kernel
theorem dX10_mend_36 : decode cX10_mend 36 = .ok (.ishr, 1) := by decide +kernel
theorem dX10_mend_37 : decode cX10_mend 37 = .ok (.iconst 1, 1) := by decide +kernel
theorem dX10_mend_38 : decode cX10_mend 38 = .ok (.iand, 1) := by decide +kernel
theorem dX10_mend_39 : decode cX10_mend 39 = .ok (.ifCond .ne 7, 3) := by decide +kernel
theorem dX10_mend_42 : decode cX10_mend 42 = .ok (.iconst 1, 1) := by decide +kernel
theorem dX10_mend_43 : decode cX10_mend 43 = .ok (.goto 4, 3) := by decide +kernel
theorem dX10_mend_46 : decode cX10_mend 46 = .ok (.iconst 0, 1) := by decide +kernel
theorem dX10_mend_47 : decode cX10_mend 47 = .ok (.bastore, 1) := by decide +kernel
theorem dX10_mend_48 : decode cX10_mend 48 = .ok (.iinc 2 1, 3) := by decide +kernel
theorem dX10_mend_51 : decode cX10_mend 51 = .ok (.goto (-39), 3) := by decide +kernel
theorem dX10_mend_54 : decode cX10_mend 54 = .ok (.aload_n 0, 1) := by decide +kernel
theorem dX10_mend_55 : decode cX10_mend 55 = .ok (.iconst 0, 1) := by decide +kernel
theorem dX10_mend_56 : decode cX10_mend 56 = .ok (.putfield 121, 3) := by decide +kernel
theorem dX10_mend_59 : decode cX10_mend 59 = .ok (.iload_n 1, 1) := by decide +kernel
theorem dX10_mend_60 : decode cX10_mend 60 = .ok (.invokestatic 177, 3) := by decide +kernel
theorem dX10_mend_63 : decode cX10_mend 63 = .ok (.ireturn, 1) := by decide +kernel
theorem dX10_settled_0 : decode cX10_settled 0 = .ok (.aload_n 0, 1) := by decide +kernel
theorem dX10_settled_1 : decode cX10_settled 1 = .ok (.getfield 42, 3) := by decide +kernel
theorem dX10_settled_4 : decode cX10_settled 4 = .ok (.iload_n 1, 1) := by decide +kernel
theorem dX10_settled_5 : decode cX10_settled 5 = .ok (.iaload, 1) := by decide +kernel
theorem dX10_settled_6 : decode cX10_settled 6 = .ok (.istore 4, 2) := by decide +kernel
theorem dX10_settled_8 : decode cX10_settled 8 = .ok (.lconst 0, 1) := by decide +kernel
theorem dX10_settled_9 : decode cX10_settled 9 = .ok (.lstore 5, 2) := by decide +kernel
theorem dX10_settled_11 : decode cX10_settled 11 = .ok (.bipush (-9), 2) := by decide +kernel
theorem dX10_settled_13 : decode cX10_settled 13 = .ok (.istore 7, 2) := by decide +kernel
theorem dX10_settled_15 : decode cX10_settled 15 = .ok (.iconst 0, 1) := by decide +kernel
theorem dX10_settled_16 : decode cX10_settled 16 = .ok (.istore 8, 2) := by decide +kernel
theorem dX10_settled_18 : decode cX10_settled 18 = .ok (.iload 8, 2) := by decide +kernel
theorem dX10_settled_20 : decode cX10_settled 20 = .ok (.aload_n 0, 1) := by decide +kernel
theorem dX10_settled_21 : decode cX10_settled 21 = .ok (.getfield 106, 3) := by decide +kernel
theorem dX10_settled_24 : decode cX10_settled 24 = .ok (.if_icmp .ge 188, 3) := by decide +kernel
theorem dX10_settled_27 : decode cX10_settled 27 = .ok (.aload_n 0, 1) := by decide +kernel
theorem dX10_settled_28 : decode cX10_settled 28 = .ok (.iload_n 1, 1) := by decide +kernel
theorem dX10_settled_29 : decode cX10_settled 29 = .ok (.iload 8, 2) := by decide +kernel
theorem dX10_settled_31 : decode cX10_settled 31 = .ok (.iload_n 3, 1) := by decide +kernel
theorem dX10_settled_32 : decode cX10_settled 32 = .ok (.invokevirtual 154, 3) := by decide +kernel
theorem dX10_settled_35 : decode cX10_settled 35 = .ok (.ifCond .eq 171, 3) := by decide +kernel
theorem dX10_settled_38 : decode cX10_settled 38 = .ok (.aload_n 0, 1) := by decide +kernel
theorem dX10_settled_39 : decode cX10_settled 39 = .ok (.iload 8, 2) := by decide +kernel
theorem dX10_settled_41 : decode cX10_settled 41 = .ok (.aload_n 0, 1) := by decide +kernel
theorem dX10_settled_42 : decode cX10_settled 42 = .ok (.getfield 39, 3) := by decide +kernel
theorem dX10_settled_45 : decode cX10_settled 45 = .ok (.iload_n 1, 1) := by decide +kernel
theorem dX10_settled_46 : decode cX10_settled 46 = .ok (.iaload, 1) := by decide +kernel
theorem dX10_settled_47 : decode cX10_settled 47 = .ok (.iload_n 2, 1) := by decide +kernel
theorem dX10_settled_48 : decode cX10_settled 48 = .ok (.aload_n 0, 1) := by decide +kernel
theorem dX10_settled_49 : decode cX10_settled 49 = .ok (.getfield 39, 3) := by decide +kernel
theorem dX10_settled_52 : decode cX10_settled 52 = .ok (.iload_n 1, 1) := by decide +kernel
theorem dX10_settled_53 : decode cX10_settled 53 = .ok (.iaload, 1) := by decide +kernel
theorem dX10_settled_54 : decode cX10_settled 54 = .ok (.invokevirtual 150, 3) := by decide +kernel
theorem dX10_settled_57 : decode cX10_settled 57 = .ok (.ifCond .eq 149, 3) := by decide +kernel
theorem dX10_settled_60 : decode cX10_settled 60 = .ok (.aload_n 0, 1) := by decide +kernel
theorem dX10_settled_61 : decode cX10_settled 61 = .ok (.getfield 26, 3) := by decide +kernel
theorem dX10_settled_64 : decode cX10_settled 64 = .ok (.bipush 6, 2) := by decide +kernel
theorem dX10_settled_66 : decode cX10_settled 66 = .ok (.iload 8, 2) := by decide +kernel
theorem dX10_settled_68 : decode cX10_settled 68 = .ok (.imul, 1) := by decide +kernel
theorem dX10_settled_69 : decode cX10_settled 69 = .ok (.iload 4, 2) := by decide +kernel
theorem dX10_settled_71 : decode cX10_settled 71 = .ok (.iadd, 1) := by decide +kernel
theorem dX10_settled_72 : decode cX10_settled 72 = .ok (.baload, 1) := by decide +kernel
theorem dX10_settled_73 : decode cX10_settled 73 = .ok (.ifCond .eq 133, 3) := by decide +kernel
theorem dX10_settled_76 : decode cX10_settled 76 = .ok (.aload_n 0, 1) := by decide +kernel
theorem dX10_settled_77 : decode cX10_settled 77 = .ok (.getfield 29, 3) := by decide +kernel
theorem dX10_settled_80 : decode cX10_settled 80 = .ok (.bipush 6, 2) := by decide +kernel
theorem dX10_settled_82 : decode cX10_settled 82 = .ok (.iload 8, 2) := by decide +kernel
theorem dX10_settled_84 : decode cX10_settled 84 = .ok (.imul, 1) := by decide +kernel
theorem dX10_settled_85 : decode cX10_settled 85 = .ok (.iload 4, 2) := by decide +kernel
theorem dX10_settled_87 : decode cX10_settled 87 = .ok (.iadd, 1) := by decide +kernel
theorem dX10_settled_88 : decode cX10_settled 88 = .ok (.laload, 1) := by decide +kernel
theorem dX10_settled_89 : decode cX10_settled 89 = .ok (.lstore 9, 2) := by decide +kernel
theorem dX10_settled_91 : decode cX10_settled 91 = .ok (.iconst 0, 1) := by decide +kernel
theorem dX10_settled_92 : decode cX10_settled 92 = .ok (.istore 11, 2) := by decide +kernel
theorem dX10_settled_94 : decode cX10_settled 94 = .ok (.iconst 0, 1) := by decide +kernel
theorem dX10_settled_95 : decode cX10_settled 95 = .ok (.istore 12, 2) := by decide +kernel
theorem dX10_settled_97 : decode cX10_settled 97 = .ok (.iload 12, 2) := by decide +kernel
theorem dX10_settled_99 : decode cX10_settled 99 = .ok (.aload_n 0, 1) := by decide +kernel
theorem dX10_settled_100 : decode cX10_settled 100 = .ok (.getfield 106, 3) := by decide +kernel
theorem dX10_settled_103 : decode cX10_settled 103 = .ok (.if_icmp .ge 73, 3) := by decide +kernel
theorem dX10_settled_106 : decode cX10_settled 106 = .ok (.iload 11, 2) := by decide +kernel
theorem dX10_settled_108 : decode cX10_settled 108 = .ok (.aload_n 0, 1) := by decide +kernel
theorem dX10_settled_109 : decode cX10_settled 109 = .ok (.iload_n 1, 1) := by decide +kernel
theorem dX10_settled_110 : decode cX10_settled 110 = .ok (.iload 12, 2) := by decide +kernel
theorem dX10_settled_112 : decode cX10_settled 112 = .ok (.iload_n 3, 1) := by decide +kernel
theorem dX10_settled_113 : decode cX10_settled 113 = .ok (.invokevirtual 154, 3) := by decide +kernel
theorem dX10_settled_116 : decode cX10_settled 116 = .ok (.ifCond .eq 50, 3) := by decide +kernel
theorem dX10_settled_119 : decode cX10_settled 119 = .ok (.aload_n 0, 1) := by decide +kernel
theorem dX10_settled_120 : decode cX10_settled 120 = .ok (.iload 12, 2) := by decide +kernel
theorem dX10_settled_122 : decode cX10_settled 122 = .ok (.aload_n 0, 1) := by decide +kernel
theorem dX10_settled_123 : decode cX10_settled 123 = .ok (.getfield 39, 3) := by decide +kernel
theorem dX10_settled_126 : decode cX10_settled 126 = .ok (.iload_n 1, 1) := by decide +kernel
theorem dX10_settled_127 : decode cX10_settled 127 = .ok (.iaload, 1) := by decide +kernel
theorem dX10_settled_128 : decode cX10_settled 128 = .ok (.iload_n 2, 1) := by decide +kernel
theorem dX10_settled_129 : decode cX10_settled 129 = .ok (.aload_n 0, 1) := by decide +kernel
theorem dX10_settled_130 : decode cX10_settled 130 = .ok (.getfield 39, 3) := by decide +kernel
theorem dX10_settled_133 : decode cX10_settled 133 = .ok (.iload_n 1, 1) := by decide +kernel
theorem dX10_settled_134 : decode cX10_settled 134 = .ok (.iaload, 1) := by decide +kernel
theorem dX10_settled_135 : decode cX10_settled 135 = .ok (.invokevirtual 150, 3) := by decide +kernel
theorem dX10_settled_138 : decode cX10_settled 138 = .ok (.ifCond .eq 28, 3) := by decide +kernel
theorem dX10_settled_141 : decode cX10_settled 141 = .ok (.aload_n 0, 1) := by decide +kernel
theorem dX10_settled_142 : decode cX10_settled 142 = .ok (.iload 12, 2) := by decide +kernel
theorem dX10_settled_144 : decode cX10_settled 144 = .ok (.iload 4, 2) := by decide +kernel
theorem dX10_settled_146 : decode cX10_settled 146 = .ok (.iload 8, 2) := by decide +kernel
theorem dX10_settled_148 : decode cX10_settled 148 = .ok (.iload 4, 2) := by decide +kernel
theorem dX10_settled_150 : decode cX10_settled 150 = .ok (.invokevirtual 150, 3) := by decide +kernel
theorem dX10_settled_153 : decode cX10_settled 153 = .ok (.ifCond .eq 13, 3) := by decide +kernel
theorem dX10_settled_156 : decode cX10_settled 156 = .ok (.aload_n 0, 1) := by decide +kernel
theorem dX10_settled_157 : decode cX10_settled 157 = .ok (.getfield 19, 3) := by decide +kernel
theorem dX10_settled_160 : decode cX10_settled 160 = .ok (.iload 12, 2) := by decide +kernel
theorem dX10_settled_162 : decode cX10_settled 162 = .ok (.iaload, 1) := by decide +kernel
theorem dX10_settled_163 : decode cX10_settled 163 = .ok (.goto 4, 3) := by decide +kernel
theorem dX10_settled_166 : decode cX10_settled 166 = .ok (.iconst 0, 1) := by decide +kernel
theorem dX10_settled_167 : decode cX10_settled 167 = .ok (.iadd, 1) := by decide +kernel
theorem dX10_settled_168 : decode cX10_settled 168 = .ok (.istore 11, 2) := by decide +kernel
theorem dX10_settled_170 : decode cX10_settled 170 = .ok (.iinc 12 1, 3) := by decide +kernel
theorem dX10_settled_173 : decode cX10_settled 173 = .ok (.goto (-76), 3) := by decide +kernel
theorem dX10_settled_176 : decode cX10_settled 176 = .ok (.iload 11, 2) := by decide +kernel
theorem dX10_settled_178 : decode cX10_settled 178 = .ok (.iload 7, 2) := by decide +kernel
theorem dX10_settled_180 : decode cX10_settled 180 = .ok (.if_icmp .gt 18, 3) := by decide +kernel
theorem dX10_settled_183 : decode cX10_settled 183 = .ok (.iload 11, 2) := by decide +kernel
theorem dX10_settled_185 : decode cX10_settled 185 = .ok (.iload 7, 2) := by decide +kernel
theorem dX10_settled_187 : decode cX10_settled 187 = .ok (.if_icmp .ne 19, 3) := by decide +kernel
theorem dX10_settled_190 : decode cX10_settled 190 = .ok (.lload 9, 2) := by decide +kernel
theorem dX10_settled_192 : decode cX10_settled 192 = .ok (.lload 5, 2) := by decide +kernel
theorem dX10_settled_194 : decode cX10_settled 194 = .ok (.lcmp, 1) := by decide +kernel
theorem dX10_settled_195 : decode cX10_settled 195 = .ok (.ifCond .ge 11, 3) := by decide +kernel
theorem dX10_settled_198 : decode cX10_settled 198 = .ok (.iload 11, 2) := by decide +kernel
theorem dX10_settled_200 : decode cX10_settled 200 = .ok (.istore 7, 2) := by decide +kernel
theorem dX10_settled_202 : decode cX10_settled 202 = .ok (.lload 9, 2) := by decide +kernel
theorem dX10_settled_204 : decode cX10_settled 204 = .ok (.lstore 5, 2) := by decide +kernel
theorem dX10_settled_206 : decode cX10_settled 206 = .ok (.iinc 8 1, 3) := by decide +kernel
theorem dX10_settled_209 : decode cX10_settled 209 = .ok (.goto (-191), 3) := by decide +kernel
theorem dX10_settled_212 : decode cX10_settled 212 = .ok (.lload 5, 2) := by decide +kernel
theorem dX10_settled_214 : decode cX10_settled 214 = .ok (.lreturn, 1) := by decide +kernel
theorem dX10_settle_0 : decode cX10_settle 0 = .ok (.aload_n 0, 1) := by decide +kernel
theorem dX10_settle_1 : decode cX10_settle 1 = .ok (.iconst 0, 1) := by decide +kernel
theorem dX10_settle_2 : decode cX10_settle 2 = .ok (.putfield 93, 3) := by decide +kernel
theorem dX10_settle_5 : decode cX10_settle 5 = .ok (.aload_n 0, 1) := by decide +kernel
theorem dX10_settle_6 : decode cX10_settle 6 = .ok (.iload_n 1, 1) := by decide +kernel
theorem dX10_settle_7 : decode cX10_settle 7 = .ok (.invokevirtual 147, 3) := by decide +kernel
theorem dX10_settle_10 : decode cX10_settle 10 = .ok (.ifCond .eq 5, 3) := by decide +kernel
theorem dX10_settle_13 : decode cX10_settle 13 = .ok (.iconst (-1), 1) := by decide +kernel
theorem dX10_settle_14 : decode cX10_settle 14 = .ok (.ireturn, 1) := by decide +kernel
theorem dX10_settle_15 : decode cX10_settle 15 = .ok (.aload_n 0, 1) := by decide +kernel
theorem dX10_settle_16 : decode cX10_settle 16 = .ok (.getfield 33, 3) := by decide +kernel
theorem dX10_settle_19 : decode cX10_settle 19 = .ok (.iload_n 1, 1) := by decide +kernel
theorem dX10_settle_20 : decode cX10_settle 20 = .ok (.iaload, 1) := by decide +kernel
theorem dX10_settle_21 : decode cX10_settle 21 = .ok (.ifCond .eq 10, 3) := by decide +kernel
theorem dX10_settle_24 : decode cX10_settle 24 = .ok (.aload_n 0, 1) := by decide +kernel
theorem dX10_settle_25 : decode cX10_settle 25 = .ok (.bipush (-13), 2) := by decide +kernel
theorem dX10_settle_27 : decode cX10_settle 27 = .ok (.invokevirtual 112, 3) := by decide +kernel
theorem dX10_settle_30 : decode cX10_settle 30 = .ok (.ireturn, 1) := by decide +kernel
theorem dX10_settle_31 : decode cX10_settle 31 = .ok (.aload_n 0, 1) := by decide +kernel
theorem dX10_settle_32 : decode cX10_settle 32 = .ok (.getfield 39, 3) := by decide +kernel
theorem dX10_settle_35 : decode cX10_settle 35 = .ok (.iload_n 1, 1) := by decide +kernel
theorem dX10_settle_36 : decode cX10_settle 36 = .ok (.iaload, 1) := by decide +kernel
theorem dX10_settle_37 : decode cX10_settle 37 = .ok (.aload_n 0, 1) := by decide +kernel
theorem dX10_settle_38 : decode cX10_settle 38 = .ok (.getfield 42, 3) := by decide +kernel
theorem dX10_settle_41 : decode cX10_settle 41 = .ok (.iload_n 1, 1) := by decide +kernel
theorem dX10_settle_42 : decode cX10_settle 42 = .ok (.iaload, 1) := by decide +kernel
theorem dX10_settle_43 : decode cX10_settle 43 = .ok (.if_icmp .ne 6, 3) := by decide +kernel
theorem dX10_settle_46 : decode cX10_settle 46 = .ok (.bipush (-3), 2) := by decide +kernel
theorem dX10_settle_48 : decode cX10_settle 48 = .ok (.ireturn, 1) := by decide +kernel
theorem dX10_settle_49 : decode cX10_settle 49 = .ok (.aload_n 0, 1) := by decide +kernel
theorem dX10_settle_50 : decode cX10_settle 50 = .ok (.invokevirtual 170, 3) := by decide +kernel
theorem dX10_settle_53 : decode cX10_settle 53 = .ok (.istore_n 2, 1) := by decide +kernel
theorem dX10_settle_54 : decode cX10_settle 54 = .ok (.aload_n 0, 1) := by decide +kernel
theorem dX10_settle_55 : decode cX10_settle 55 = .ok (.getfield 42, 3) := by decide +kernel
theorem dX10_settle_58 : decode cX10_settle 58 = .ok (.iload_n 1, 1) := by decide +kernel
theorem dX10_settle_59 : decode cX10_settle 59 = .ok (.iaload, 1) := by decide +kernel
theorem dX10_settle_60 : decode cX10_settle 60 = .ok (.istore_n 3, 1) := by decide +kernel
theorem dX10_settle_61 : decode cX10_settle 61 = .ok (.iconst 0, 1) := by decide +kernel
theorem dX10_settle_62 : decode cX10_settle 62 = .ok (.istore 4, 2) := by decide +kernel
theorem dX10_settle_64 : decode cX10_settle 64 = .ok (.iload 4, 2) := by decide +kernel
theorem dX10_settle_66 : decode cX10_settle 66 = .ok (.aload_n 0, 1) := by decide +kernel
theorem dX10_settle_67 : decode cX10_settle 67 = .ok (.getfield 106, 3) := by decide +kernel
theorem dX10_settle_70 : decode cX10_settle 70 = .ok (.if_icmp .ge 85, 3) := by decide +kernel
theorem dX10_settle_73 : decode cX10_settle 73 = .ok (.aload_n 0, 1) := by decide +kernel
theorem dX10_settle_74 : decode cX10_settle 74 = .ok (.getfield 87, 3) := by decide +kernel
theorem dX10_settle_77 : decode cX10_settle 77 = .ok (.iload 4, 2) := by decide +kernel
theorem dX10_settle_79 : decode cX10_settle 79 = .ok (.aload_n 0, 1) := by decide +kernel
theorem dX10_settle_80 : decode cX10_settle 80 = .ok (.iload_n 1, 1) := by decide +kernel
theorem dX10_settle_81 : decode cX10_settle 81 = .ok (.iload 4, 2) := by decide +kernel
theorem dX10_settle_83 : decode cX10_settle 83 = .ok (.iload_n 2, 1) := by decide +kernel
theorem dX10_settle_84 : decode cX10_settle 84 = .ok (.invokevirtual 154, 3) := by decide +kernel
theorem dX10_settle_87 : decode cX10_settle 87 = .ok (.ifCond .eq 49, 3) := by decide +kernel
theorem dX10_settle_90 : decode cX10_settle 90 = .ok (.aload_n 0, 1) := by decide +kernel
theorem dX10_settle_91 : decode cX10_settle 91 = .ok (.getfield 26, 3) := by decide +kernel
theorem dX10_settle_94 : decode cX10_settle 94 = .ok (.bipush 6, 2) := by decide +kernel
theorem dX10_settle_96 : decode cX10_settle 96 = .ok (.iload 4, 2) := by decide +kernel
theorem dX10_settle_98 : decode cX10_settle 98 = .ok (.imul, 1) := by decide +kernel
theorem dX10_settle_99 : decode cX10_settle 99 = .ok (.aload_n 0, 1) := by decide +kernel
theorem dX10_settle_100 : decode cX10_settle 100 = .ok (.getfield 39, 3) := by decide +kernel
theorem dX10_settle_103 : decode cX10_settle 103 = .ok (.iload_n 1, 1) := by decide +kernel
theorem dX10_settle_104 : decode cX10_settle 104 = .ok (.iaload, 1) := by decide +kernel
theorem dX10_settle_105 : decode cX10_settle 105 = .ok (.iadd, 1) := by decide +kernel
theorem dX10_settle_106 : decode cX10_settle 106 = .ok (.baload, 1) := by decide +kernel
theorem dX10_settle_107 : decode cX10_settle 107 = .ok (.ifCond .eq 29, 3) := by decide +kernel
theorem dX10_settle_110 : decode cX10_settle 110 = .ok (.aload_n 0, 1) := by decide +kernel
theorem dX10_settle_111 : decode cX10_settle 111 = .ok (.getfield 26, 3) := by decide +kernel
theorem dX10_settle_114 : decode cX10_settle 114 = .ok (.bipush 6, 2) := by decide +kernel
theorem dX10_settle_116 : decode cX10_settle 116 = .ok (.iload 4, 2) := by decide +kernel
theorem dX10_settle_118 : decode cX10_settle 118 = .ok (.imul, 1) := by decide +kernel
theorem dX10_settle_119 : decode cX10_settle 119 = .ok (.iload_n 3, 1) := by decide +kernel
theorem dX10_settle_120 : decode cX10_settle 120 = .ok (.iadd, 1) := by decide +kernel
theorem dX10_settle_121 : decode cX10_settle 121 = .ok (.baload, 1) := by decide +kernel
theorem dX10_settle_122 : decode cX10_settle 122 = .ok (.ifCond .eq 14, 3) := by decide +kernel
theorem dX10_settle_125 : decode cX10_settle 125 = .ok (.aload_n 0, 1) := by decide +kernel
theorem dX10_settle_126 : decode cX10_settle 126 = .ok (.iload_n 1, 1) := by decide +kernel
theorem dX10_settle_127 : decode cX10_settle 127 = .ok (.iload 4, 2) := by decide +kernel
theorem dX10_settle_129 : decode cX10_settle 129 = .ok (.iload_n 2, 1) := by decide +kernel
theorem dX10_settle_130 : decode cX10_settle 130 = .ok (.invokevirtual 205, 3) := by decide +kernel
theorem dX10_settle_133 : decode cX10_settle 133 = .ok (.goto 15, 3) := by decide +kernel
theorem dX10_settle_136 : decode cX10_settle 136 = .ok (.aload_n 0, 1) := by decide +kernel
theorem dX10_settle_137 : decode cX10_settle 137 = .ok (.getfield 29, 3) := by decide +kernel
theorem dX10_settle_140 : decode cX10_settle 140 = .ok (.bipush 6, 2) := by decide +kernel
theorem dX10_settle_142 : decode cX10_settle 142 = .ok (.iload 4, 2) := by decide +kernel
theorem dX10_settle_144 : decode cX10_settle 144 = .ok (.imul, 1) := by decide +kernel
theorem dX10_settle_145 : decode cX10_settle 145 = .ok (.iload_n 3, 1) := by decide +kernel
theorem dX10_settle_146 : decode cX10_settle 146 = .ok (.iadd, 1) := by decide +kernel
theorem dX10_settle_147 : decode cX10_settle 147 = .ok (.laload, 1) := by decide +kernel
theorem dX10_settle_148 : decode cX10_settle 148 = .ok (.lastore, 1) := by decide +kernel
theorem dX10_settle_149 : decode cX10_settle 149 = .ok (.iinc 4 1, 3) := by decide +kernel
theorem dX10_settle_152 : decode cX10_settle 152 = .ok (.goto (-88), 3) := by decide +kernel
theorem dX10_settle_155 : decode cX10_settle 155 = .ok (.iconst 0, 1) := by decide +kernel
theorem dX10_settle_156 : decode cX10_settle 156 = .ok (.istore 4, 2) := by decide +kernel
theorem dX10_settle_158 : decode cX10_settle 158 = .ok (.iconst 0, 1) := by decide +kernel
theorem dX10_settle_159 : decode cX10_settle 159 = .ok (.istore 5, 2) := by decide +kernel
theorem dX10_settle_161 : decode cX10_settle 161 = .ok (.iload 5, 2) := by decide +kernel
theorem dX10_settle_163 : decode cX10_settle 163 = .ok (.aload_n 0, 1) := by decide +kernel
theorem dX10_settle_164 : decode cX10_settle 164 = .ok (.getfield 106, 3) := by decide +kernel
theorem dX10_settle_167 : decode cX10_settle 167 = .ok (.if_icmp .ge 104, 3) := by decide +kernel
theorem dX10_settle_170 : decode cX10_settle 170 = .ok (.aload_n 0, 1) := by decide +kernel
theorem dX10_settle_171 : decode cX10_settle 171 = .ok (.iload_n 1, 1) := by decide +kernel
theorem dX10_settle_172 : decode cX10_settle 172 = .ok (.iload 5, 2) := by decide +kernel
theorem dX10_settle_174 : decode cX10_settle 174 = .ok (.iload_n 2, 1) := by decide +kernel
theorem dX10_settle_175 : decode cX10_settle 175 = .ok (.invokevirtual 154, 3) := by decide +kernel
theorem dX10_settle_178 : decode cX10_settle 178 = .ok (.ifCond .eq 30, 3) := by decide +kernel
theorem dX10_settle_181 : decode cX10_settle 181 = .ok (.aload_n 0, 1) := by decide +kernel
theorem dX10_settle_182 : decode cX10_settle 182 = .ok (.getfield 87, 3) := by decide +kernel
theorem dX10_settle_185 : decode cX10_settle 185 = .ok (.iload 5, 2) := by decide +kernel
theorem dX10_settle_187 : decode cX10_settle 187 = .ok (.laload, 1) := by decide +kernel
theorem dX10_settle_188 : decode cX10_settle 188 = .ok (.aload_n 0, 1) := by decide +kernel
theorem dX10_settle_189 : decode cX10_settle 189 = .ok (.getfield 29, 3) := by decide +kernel
theorem dX10_settle_192 : decode cX10_settle 192 = .ok (.bipush 6, 2) := by decide +kernel
theorem dX10_settle_194 : decode cX10_settle 194 = .ok (.iload 5, 2) := by decide +kernel
theorem dX10_settle_196 : decode cX10_settle 196 = .ok (.imul, 1) := by decide +kernel
theorem dX10_settle_197 : decode cX10_settle 197 = .ok (.iload_n 3, 1) := by decide +kernel
theorem dX10_settle_198 : decode cX10_settle 198 = .ok (.iadd, 1) := by decide +kernel
theorem dX10_settle_199 : decode cX10_settle 199 = .ok (.laload, 1) := by decide +kernel
theorem dX10_settle_200 : decode cX10_settle 200 = .ok (.lcmp, 1) := by decide +kernel
theorem dX10_settle_201 : decode cX10_settle 201 = .ok (.ifCond .eq 7, 3) := by decide +kernel
theorem dX10_settle_204 : decode cX10_settle 204 = .ok (.iconst 1, 1) := by decide +kernel
theorem dX10_settle_205 : decode cX10_settle 205 = .ok (.goto 4, 3) := by decide +kernel
theorem dX10_settle_208 : decode cX10_settle 208 = .ok (.iconst 0, 1) := by decide +kernel
theorem dX10_settle_209 : decode cX10_settle 209 = .ok (.istore 6, 2) := by decide +kernel
theorem dX10_settle_211 : decode cX10_settle 211 = .ok (.iload 4, 2) := by decide +kernel
theorem dX10_settle_213 : decode cX10_settle 213 = .ok (.iload 6, 2) := by decide +kernel
theorem dX10_settle_215 : decode cX10_settle 215 = .ok (.ifCond .eq 7, 3) := by decide +kernel
theorem dX10_settle_218 : decode cX10_settle 218 = .ok (.iconst 1, 1) := by decide +kernel
theorem dX10_settle_219 : decode cX10_settle 219 = .ok (.goto 4, 3) := by decide +kernel
theorem dX10_settle_222 : decode cX10_settle 222 = .ok (.iconst 0, 1) := by decide +kernel
theorem dX10_settle_223 : decode cX10_settle 223 = .ok (.iadd, 1) := by decide +kernel
theorem dX10_settle_224 : decode cX10_settle 224 = .ok (.istore 4, 2) := by decide +kernel
theorem dX10_settle_226 : decode cX10_settle 226 = .ok (.aload_n 0, 1) := by decide +kernel
theorem dX10_settle_227 : decode cX10_settle 227 = .ok (.getfield 29, 3) := by decide +kernel
theorem dX10_settle_230 : decode cX10_settle 230 = .ok (.bipush 6, 2) := by decide +kernel
theorem dX10_settle_232 : decode cX10_settle 232 = .ok (.iload 5, 2) := by decide +kernel
theorem dX10_settle_234 : decode cX10_settle 234 = .ok (.imul, 1) := by decide +kernel
theorem dX10_settle_235 : decode cX10_settle 235 = .ok (.iload_n 3, 1) := by decide +kernel
theorem dX10_settle_236 : decode cX10_settle 236 = .ok (.iadd, 1) := by decide +kernel
theorem dX10_settle_237 : decode cX10_settle 237 = .ok (.iload 6, 2) := by decide +kernel
theorem dX10_settle_239 : decode cX10_settle 239 = .ok (.ifCond .eq 13, 3) := by decide +kernel
theorem dX10_settle_242 : decode cX10_settle 242 = .ok (.aload_n 0, 1) := by decide +kernel
theorem dX10_settle_243 : decode cX10_settle 243 = .ok (.getfield 87, 3) := by decide +kernel
theorem dX10_settle_246 : decode cX10_settle 246 = .ok (.iload 5, 2) := by decide +kernel
theorem dX10_settle_248 : decode cX10_settle 248 = .ok (.laload, 1) := by decide +kernel
theorem dX10_settle_249 : decode cX10_settle 249 = .ok (.goto 15, 3) := by decide +kernel
theorem dX10_settle_252 : decode cX10_settle 252 = .ok (.aload_n 0, 1) := by decide +kernel
theorem dX10_settle_253 : decode cX10_settle 253 = .ok (.getfield 29, 3) := by decide +kernel
theorem dX10_settle_256 : decode cX10_settle 256 = .ok (.bipush 6, 2) := by decide +kernel
theorem dX10_settle_258 : decode cX10_settle 258 = .ok (.iload 5, 2) := by decide +kernel
theorem dX10_settle_260 : decode cX10_settle 260 = .ok (.imul, 1) := by decide +kernel
theorem dX10_settle_261 : decode cX10_settle 261 = .ok (.iload_n 3, 1) := by decide +kernel
theorem dX10_settle_262 : decode cX10_settle 262 = .ok (.iadd, 1) := by decide +kernel
theorem dX10_settle_263 : decode cX10_settle 263 = .ok (.laload, 1) := by decide +kernel
theorem dX10_settle_264 : decode cX10_settle 264 = .ok (.lastore, 1) := by decide +kernel
theorem dX10_settle_265 : decode cX10_settle 265 = .ok (.iinc 5 1, 3) := by decide +kernel
theorem dX10_settle_268 : decode cX10_settle 268 = .ok (.goto (-107), 3) := by decide +kernel
theorem dX10_settle_271 : decode cX10_settle 271 = .ok (.aload_n 0, 1) := by decide +kernel
theorem dX10_settle_272 : decode cX10_settle 272 = .ok (.iconst 0, 1) := by decide +kernel
theorem dX10_settle_273 : decode cX10_settle 273 = .ok (.putfield 121, 3) := by decide +kernel
theorem dX10_settle_276 : decode cX10_settle 276 = .ok (.iload 4, 2) := by decide +kernel
theorem dX10_settle_278 : decode cX10_settle 278 = .ok (.ireturn, 1) := by decide +kernel
theorem dX10_noPart_0 : decode cX10_noPart 0 = .ok (.iload_n 1, 1) := by decide +kernel
theorem dX10_noPart_1 : decode cX10_noPart 1 = .ok (.i2l, 1) := by decide +kernel
theorem dX10_noPart_2 : decode cX10_noPart 2 = .ok (.lconst 0, 1) := by decide +kernel
theorem dX10_noPart_3 : decode cX10_noPart 3 = .ok (.aload_n 0, 1) := by decide +kernel
theorem dX10_noPart_4 : decode cX10_noPart 4 = .ok (.getfield 209, 3) := by decide +kernel
theorem dX10_noPart_7 : decode cX10_noPart 7 = .ok (.iconst 1, 1) := by decide +kernel
theorem dX10_noPart_8 : decode cX10_noPart 8 = .ok (.isub, 1) := by decide +kernel
theorem dX10_noPart_9 : decode cX10_noPart 9 = .ok (.i2l, 1) := by decide +kernel
theorem dX10_noPart_10 : decode cX10_noPart 10 = .ok (.invokestatic 102, 3) := by decide +kernel
theorem dX10_noPart_13 : decode cX10_noPart 13 = .ok (.ifCond .ne 7, 3) := by decide +kernel
theorem dX10_noPart_16 : decode cX10_noPart 16 = .ok (.iconst 1, 1) := by decide +kernel
theorem dX10_noPart_17 : decode cX10_noPart 17 = .ok (.goto 4, 3) := by decide +kernel
theorem dX10_noPart_20 : decode cX10_noPart 20 = .ok (.iconst 0, 1) := by decide +kernel
theorem dX10_noPart_21 : decode cX10_noPart 21 = .ok (.ireturn, 1) := by decide +kernel
theorem dX10_ask_0 : decode cX10_ask 0 = .ok (.aload_n 0, 1) := by decide +kernel
theorem dX10_ask_1 : decode cX10_ask 1 = .ok (.iconst 0, 1) := by decide +kernel
theorem dX10_ask_2 : decode cX10_ask 2 = .ok (.putfield 93, 3) := by decide +kernel
theorem dX10_ask_5 : decode cX10_ask 5 = .ok (.aload_n 0, 1) := by decide +kernel
theorem dX10_ask_6 : decode cX10_ask 6 = .ok (.getfield 209, 3) := by decide +kernel
theorem dX10_ask_9 : decode cX10_ask 9 = .ok (.istore_n 1, 1) := by decide +kernel
theorem dX10_ask_10 : decode cX10_ask 10 = .ok (.aload_n 0, 1) := by decide +kernel
theorem dX10_ask_11 : decode cX10_ask 11 = .ok (.iconst 0, 1) := by decide +kernel
theorem dX10_ask_12 : decode cX10_ask 12 = .ok (.putfield 209, 3) := by decide +kernel
theorem dX10_ask_15 : decode cX10_ask 15 = .ok (.aload_n 0, 1) := by decide +kernel
theorem dX10_ask_16 : decode cX10_ask 16 = .ok (.iconst 0, 1) := by decide +kernel
theorem dX10_ask_17 : decode cX10_ask 17 = .ok (.putfield 212, 3) := by decide +kernel
theorem dX10_ask_20 : decode cX10_ask 20 = .ok (.iload_n 1, 1) := by decide +kernel
theorem dX10_ask_21 : decode cX10_ask 21 = .ok (.ireturn, 1) := by decide +kernel
theorem dX10_part_0 : decode cX10_part 0 = .ok (.aload_n 0, 1) := by decide +kernel
theorem dX10_part_1 : decode cX10_part 1 = .ok (.iconst 0, 1) := by decide +kernel
theorem dX10_part_2 : decode cX10_part 2 = .ok (.putfield 93, 3) := by decide +kernel
theorem dX10_part_5 : decode cX10_part 5 = .ok (.aload_n 0, 1) := by decide +kernel
theorem dX10_part_6 : decode cX10_part 6 = .ok (.iload_n 1, 1) := by decide +kernel
theorem dX10_part_7 : decode cX10_part 7 = .ok (.invokevirtual 116, 3) := by decide +kernel
theorem dX10_part_10 : decode cX10_part 10 = .ok (.ifCond .eq 13, 3) := by decide +kernel
theorem dX10_part_13 : decode cX10_part 13 = .ok (.aload_n 0, 1) := by decide +kernel
theorem dX10_part_14 : decode cX10_part 14 = .ok (.aload_n 0, 1) := by decide +kernel
theorem dX10_part_15 : decode cX10_part 15 = .ok (.iload_n 1, 1) := by decide +kernel
theorem dX10_part_16 : decode cX10_part 16 = .ok (.invokevirtual 116, 3) := by decide +kernel
theorem dX10_part_19 : decode cX10_part 19 = .ok (.invokevirtual 112, 3) := by decide +kernel
theorem dX10_part_22 : decode cX10_part 22 = .ok (.ireturn, 1) := by decide +kernel
theorem dX10_part_23 : decode cX10_part 23 = .ok (.aload_n 0, 1) := by decide +kernel
theorem dX10_part_24 : decode cX10_part 24 = .ok (.getfield 209, 3) := by decide +kernel
theorem dX10_part_27 : decode cX10_part 27 = .ok (.iconst 3, 1) := by decide +kernel
theorem dX10_part_28 : decode cX10_part 28 = .ok (.if_icmp .ne 6, 3) := by decide +kernel
theorem dX10_part_31 : decode cX10_part 31 = .ok (.bipush (-4), 2) := by decide +kernel
theorem dX10_part_33 : decode cX10_part 33 = .ok (.ireturn, 1) := by decide +kernel
theorem dX10_part_34 : decode cX10_part 34 = .ok (.aload_n 0, 1) := by decide +kernel
theorem dX10_part_35 : decode cX10_part 35 = .ok (.getfield 57, 3) := by decide +kernel
theorem dX10_part_38 : decode cX10_part 38 = .ok (.aload_n 0, 1) := by decide +kernel
theorem dX10_part_39 : decode cX10_part 39 = .ok (.getfield 209, 3) := by decide +kernel
theorem dX10_part_42 : decode cX10_part 42 = .ok (.iload_n 1, 1) := by decide +kernel
theorem dX10_part_43 : decode cX10_part 43 = .ok (.iastore, 1) := by decide +kernel
theorem dX10_part_44 : decode cX10_part 44 = .ok (.bipush 6, 2) := by decide +kernel
theorem dX10_part_46 : decode cX10_part 46 = .ok (.aload_n 0, 1) := by decide +kernel
theorem dX10_part_47 : decode cX10_part 47 = .ok (.getfield 209, 3) := by decide +kernel
theorem dX10_part_50 : decode cX10_part 50 = .ok (.imul, 1) := by decide +kernel
theorem dX10_part_51 : decode cX10_part 51 = .ok (.istore_n 2, 1) := by decide +kernel
theorem dX10_part_52 : decode cX10_part 52 = .ok (.iload_n 2, 1) := by decide +kernel
theorem dX10_part_53 : decode cX10_part 53 = .ok (.bipush 6, 2) := by decide +kernel
theorem dX10_part_55 : decode cX10_part 55 = .ok (.aload_n 0, 1) := by decide +kernel
theorem dX10_part_56 : decode cX10_part 56 = .ok (.getfield 209, 3) := by decide +kernel
theorem dX10_part_59 : decode cX10_part 59 = .ok (.imul, 1) := by decide +kernel
theorem dX10_part_60 : decode cX10_part 60 = .ok (.bipush 6, 2) := by decide +kernel
theorem dX10_part_62 : decode cX10_part 62 = .ok (.iadd, 1) := by decide +kernel
theorem dX10_part_63 : decode cX10_part 63 = .ok (.if_icmp .ge 16, 3) := by decide +kernel
theorem dX10_part_66 : decode cX10_part 66 = .ok (.aload_n 0, 1) := by decide +kernel
theorem dX10_part_67 : decode cX10_part 67 = .ok (.getfield 60, 3) := by decide +kernel
theorem dX10_part_70 : decode cX10_part 70 = .ok (.iload_n 2, 1) := by decide +kernel
theorem dX10_part_71 : decode cX10_part 71 = .ok (.iconst 0, 1) := by decide +kernel
theorem dX10_part_72 : decode cX10_part 72 = .ok (.bastore, 1) := by decide +kernel
theorem dX10_part_73 : decode cX10_part 73 = .ok (.iinc 2 1, 3) := by decide +kernel
theorem dX10_part_76 : decode cX10_part 76 = .ok (.goto (-24), 3) := by decide +kernel
theorem dX10_part_79 : decode cX10_part 79 = .ok (.aload_n 0, 1) := by decide +kernel
theorem dX10_part_80 : decode cX10_part 80 = .ok (.dup, 1) := by decide +kernel
theorem dX10_part_81 : decode cX10_part 81 = .ok (.getfield 209, 3) := by decide +kernel
theorem dX10_part_84 : decode cX10_part 84 = .ok (.iconst 1, 1) := by decide +kernel
theorem dX10_part_85 : decode cX10_part 85 = .ok (.iadd, 1) := by decide +kernel
theorem dX10_part_86 : decode cX10_part 86 = .ok (.putfield 209, 3) := by decide +kernel
theorem dX10_part_89 : decode cX10_part 89 = .ok (.aload_n 0, 1) := by decide +kernel
theorem dX10_part_90 : decode cX10_part 90 = .ok (.getfield 209, 3) := by decide +kernel
theorem dX10_part_93 : decode cX10_part 93 = .ok (.iconst 1, 1) := by decide +kernel
theorem dX10_part_94 : decode cX10_part 94 = .ok (.isub, 1) := by decide +kernel
theorem dX10_part_95 : decode cX10_part 95 = .ok (.ireturn, 1) := by decide +kernel
theorem dX10_tell_0 : decode cX10_tell 0 = .ok (.aload_n 0, 1) := by decide +kernel
theorem dX10_tell_1 : decode cX10_tell 1 = .ok (.iconst 0, 1) := by decide +kernel
theorem dX10_tell_2 : decode cX10_tell 2 = .ok (.putfield 93, 3) := by decide +kernel
theorem dX10_tell_5 : decode cX10_tell 5 = .ok (.aload_n 0, 1) := by decide +kernel
theorem dX10_tell_6 : decode cX10_tell 6 = .ok (.iload_n 1, 1) := by decide +kernel
theorem dX10_tell_7 : decode cX10_tell 7 = .ok (.invokevirtual 215, 3) := by decide +kernel
theorem dX10_tell_10 : decode cX10_tell 10 = .ok (.ifCond .eq 5, 3) := by decide +kernel
theorem dX10_tell_13 : decode cX10_tell 13 = .ok (.iconst (-1), 1) := by decide +kernel
theorem dX10_tell_14 : decode cX10_tell 14 = .ok (.ireturn, 1) := by decide +kernel
theorem dX10_tell_15 : decode cX10_tell 15 = .ok (.aload_n 0, 1) := by decide +kernel
theorem dX10_tell_16 : decode cX10_tell 16 = .ok (.aload_n 0, 1) := by decide +kernel
theorem dX10_tell_17 : decode cX10_tell 17 = .ok (.getfield 57, 3) := by decide +kernel
theorem dX10_tell_20 : decode cX10_tell 20 = .ok (.iload_n 1, 1) := by decide +kernel
theorem dX10_tell_21 : decode cX10_tell 21 = .ok (.iaload, 1) := by decide +kernel
theorem dX10_tell_22 : decode cX10_tell 22 = .ok (.iload_n 2, 1) := by decide +kernel
theorem dX10_tell_23 : decode cX10_tell 23 = .ok (.invokevirtual 129, 3) := by decide +kernel
theorem dX10_tell_26 : decode cX10_tell 26 = .ok (.ifCond .eq 10, 3) := by decide +kernel
theorem dX10_tell_29 : decode cX10_tell 29 = .ok (.aload_n 0, 1) := by decide +kernel
theorem dX10_tell_30 : decode cX10_tell 30 = .ok (.bipush (-12), 2) := by decide +kernel
theorem dX10_tell_32 : decode cX10_tell 32 = .ok (.invokevirtual 112, 3) := by decide +kernel
theorem dX10_tell_35 : decode cX10_tell 35 = .ok (.ireturn, 1) := by decide +kernel
theorem dX10_tell_36 : decode cX10_tell 36 = .ok (.aload_n 0, 1) := by decide +kernel
theorem dX10_tell_37 : decode cX10_tell 37 = .ok (.getfield 60, 3) := by decide +kernel
theorem dX10_tell_40 : decode cX10_tell 40 = .ok (.bipush 6, 2) := by decide +kernel
theorem dX10_tell_42 : decode cX10_tell 42 = .ok (.iload_n 1, 1) := by decide +kernel
theorem dX10_tell_43 : decode cX10_tell 43 = .ok (.imul, 1) := by decide +kernel
theorem dX10_tell_44 : decode cX10_tell 44 = .ok (.iload_n 2, 1) := by decide +kernel
theorem dX10_tell_45 : decode cX10_tell 45 = .ok (.iadd, 1) := by decide +kernel
theorem dX10_tell_46 : decode cX10_tell 46 = .ok (.iconst 1, 1) := by decide +kernel
theorem dX10_tell_47 : decode cX10_tell 47 = .ok (.bastore, 1) := by decide +kernel
theorem dX10_tell_48 : decode cX10_tell 48 = .ok (.aload_n 0, 1) := by decide +kernel
theorem dX10_tell_49 : decode cX10_tell 49 = .ok (.getfield 63, 3) := by decide +kernel
theorem dX10_tell_52 : decode cX10_tell 52 = .ok (.bipush 6, 2) := by decide +kernel
theorem dX10_tell_54 : decode cX10_tell 54 = .ok (.iload_n 1, 1) := by decide +kernel
theorem dX10_tell_55 : decode cX10_tell 55 = .ok (.imul, 1) := by decide +kernel
theorem dX10_tell_56 : decode cX10_tell 56 = .ok (.iload_n 2, 1) := by decide +kernel
theorem dX10_tell_57 : decode cX10_tell 57 = .ok (.iadd, 1) := by decide +kernel
theorem dX10_tell_58 : decode cX10_tell 58 = .ok (.lload_n 3, 1) := by decide +kernel
theorem dX10_tell_59 : decode cX10_tell 59 = .ok (.lastore, 1) := by decide +kernel
theorem dX10_tell_60 : decode cX10_tell 60 = .ok (.iconst 1, 1) := by decide +kernel
theorem dX10_tell_61 : decode cX10_tell 61 = .ok (.ireturn, 1) := by decide +kernel
theorem dX10_join_0 : decode cX10_join 0 = .ok (.aload_n 0, 1) := by decide +kernel
theorem dX10_join_1 : decode cX10_join 1 = .ok (.iconst 0, 1) := by decide +kernel
theorem dX10_join_2 : decode cX10_join 2 = .ok (.putfield 93, 3) := by decide +kernel
theorem dX10_join_5 : decode cX10_join 5 = .ok (.aload_n 0, 1) := by decide +kernel
theorem dX10_join_6 : decode cX10_join 6 = .ok (.iload_n 1, 1) := by decide +kernel
theorem dX10_join_7 : decode cX10_join 7 = .ok (.invokevirtual 215, 3) := by decide +kernel
theorem dX10_join_10 : decode cX10_join 10 = .ok (.ifCond .ne 11, 3) := by decide +kernel
theorem dX10_join_13 : decode cX10_join 13 = .ok (.aload_n 0, 1) := by decide +kernel
theorem dX10_join_14 : decode cX10_join 14 = .ok (.iload_n 3, 1) := by decide +kernel
theorem dX10_join_15 : decode cX10_join 15 = .ok (.invokevirtual 215, 3) := by decide +kernel
theorem dX10_join_18 : decode cX10_join 18 = .ok (.ifCond .eq 5, 3) := by decide +kernel
theorem dX10_join_21 : decode cX10_join 21 = .ok (.iconst (-1), 1) := by decide +kernel
theorem dX10_join_22 : decode cX10_join 22 = .ok (.ireturn, 1) := by decide +kernel
theorem dX10_join_23 : decode cX10_join 23 = .ok (.aload_n 0, 1) := by decide +kernel
theorem dX10_join_24 : decode cX10_join 24 = .ok (.aload_n 0, 1) := by decide +kernel
theorem dX10_join_25 : decode cX10_join 25 = .ok (.getfield 57, 3) := by decide +kernel
theorem dX10_join_28 : decode cX10_join 28 = .ok (.iload_n 1, 1) := by decide +kernel
theorem dX10_join_29 : decode cX10_join 29 = .ok (.iaload, 1) := by decide +kernel
theorem dX10_join_30 : decode cX10_join 30 = .ok (.iload_n 2, 1) := by decide +kernel
theorem dX10_join_31 : decode cX10_join 31 = .ok (.invokevirtual 129, 3) := by decide +kernel
theorem dX10_join_34 : decode cX10_join 34 = .ok (.ifCond .ne 18, 3) := by decide +kernel
theorem dX10_join_37 : decode cX10_join 37 = .ok (.aload_n 0, 1) := by decide +kernel
theorem dX10_join_38 : decode cX10_join 38 = .ok (.aload_n 0, 1) := by decide +kernel
theorem dX10_join_39 : decode cX10_join 39 = .ok (.getfield 57, 3) := by decide +kernel
theorem dX10_join_42 : decode cX10_join 42 = .ok (.iload_n 3, 1) := by decide +kernel
theorem dX10_join_43 : decode cX10_join 43 = .ok (.iaload, 1) := by decide +kernel
theorem dX10_join_44 : decode cX10_join 44 = .ok (.iload 4, 2) := by decide +kernel
theorem dX10_join_46 : decode cX10_join 46 = .ok (.invokevirtual 129, 3) := by decide +kernel
theorem dX10_join_49 : decode cX10_join 49 = .ok (.ifCond .eq 10, 3) := by decide +kernel
theorem dX10_join_52 : decode cX10_join 52 = .ok (.aload_n 0, 1) := by decide +kernel
theorem dX10_join_53 : decode cX10_join 53 = .ok (.bipush (-12), 2) := by decide +kernel
theorem dX10_join_55 : decode cX10_join 55 = .ok (.invokevirtual 112, 3) := by decide +kernel
theorem dX10_join_58 : decode cX10_join 58 = .ok (.ireturn, 1) := by decide +kernel
theorem dX10_join_59 : decode cX10_join 59 = .ok (.aload_n 0, 1) := by decide +kernel
theorem dX10_join_60 : decode cX10_join 60 = .ok (.getfield 212, 3) := by decide +kernel
theorem dX10_join_63 : decode cX10_join 63 = .ok (.bipush 6, 2) := by decide +kernel
theorem dX10_join_65 : decode cX10_join 65 = .ok (.if_icmp .ne 6, 3) := by decide +kernel
theorem dX10_join_68 : decode cX10_join 68 = .ok (.bipush (-4), 2) := by decide +kernel
theorem dX10_join_70 : decode cX10_join 70 = .ok (.ireturn, 1) := by decide +kernel
theorem dX10_join_71 : decode cX10_join 71 = .ok (.aload_n 0, 1) := by decide +kernel
theorem dX10_join_72 : decode cX10_join 72 = .ok (.getfield 66, 3) := by decide +kernel
theorem dX10_join_75 : decode cX10_join 75 = .ok (.aload_n 0, 1) := by decide +kernel
theorem dX10_join_76 : decode cX10_join 76 = .ok (.getfield 212, 3) := by decide +kernel
theorem dX10_join_79 : decode cX10_join 79 = .ok (.iload_n 1, 1) := by decide +kernel
theorem dX10_join_80 : decode cX10_join 80 = .ok (.iastore, 1) := by decide +kernel
theorem dX10_join_81 : decode cX10_join 81 = .ok (.aload_n 0, 1) := by decide +kernel
theorem dX10_join_82 : decode cX10_join 82 = .ok (.getfield 69, 3) := by decide +kernel
theorem dX10_join_85 : decode cX10_join 85 = .ok (.aload_n 0, 1) := by decide +kernel
theorem dX10_join_86 : decode cX10_join 86 = .ok (.getfield 212, 3) := by decide +kernel
theorem dX10_join_89 : decode cX10_join 89 = .ok (.iload_n 2, 1) := by decide +kernel
theorem dX10_join_90 : decode cX10_join 90 = .ok (.iastore, 1) := by decide +kernel
theorem dX10_join_91 : decode cX10_join 91 = .ok (.aload_n 0, 1) := by decide +kernel
theorem dX10_join_92 : decode cX10_join 92 = .ok (.getfield 72, 3) := by decide +kernel
theorem dX10_join_95 : decode cX10_join 95 = .ok (.aload_n 0, 1) := by decide +kernel
theorem dX10_join_96 : decode cX10_join 96 = .ok (.getfield 212, 3) := by decide +kernel
theorem dX10_join_99 : decode cX10_join 99 = .ok (.iload_n 3, 1) := by decide +kernel
theorem dX10_join_100 : decode cX10_join 100 = .ok (.iastore, 1) := by decide +kernel
theorem dX10_join_101 : decode cX10_join 101 = .ok (.aload_n 0, 1) := by decide +kernel
theorem dX10_join_102 : decode cX10_join 102 = .ok (.getfield 75, 3) := by decide +kernel
theorem dX10_join_105 : decode cX10_join 105 = .ok (.aload_n 0, 1) := by decide +kernel
theorem dX10_join_106 : decode cX10_join 106 = .ok (.getfield 212, 3) := by decide +kernel
theorem dX10_join_109 : decode cX10_join 109 = .ok (.iload 4, 2) := by decide +kernel
theorem dX10_join_111 : decode cX10_join 111 = .ok (.iastore, 1) := by decide +kernel
theorem dX10_join_112 : decode cX10_join 112 = .ok (.aload_n 0, 1) := by decide +kernel
theorem dX10_join_113 : decode cX10_join 113 = .ok (.dup, 1) := by decide +kernel
theorem dX10_join_114 : decode cX10_join 114 = .ok (.getfield 212, 3) := by decide +kernel
theorem dX10_join_117 : decode cX10_join 117 = .ok (.iconst 1, 1) := by decide +kernel
theorem dX10_join_118 : decode cX10_join 118 = .ok (.iadd, 1) := by decide +kernel
theorem dX10_join_119 : decode cX10_join 119 = .ok (.putfield 212, 3) := by decide +kernel
theorem dX10_join_122 : decode cX10_join 122 = .ok (.aload_n 0, 1) := by decide +kernel
theorem dX10_join_123 : decode cX10_join 123 = .ok (.getfield 212, 3) := by decide +kernel
theorem dX10_join_126 : decode cX10_join 126 = .ok (.ireturn, 1) := by decide +kernel
theorem dX10_fitsPart_0 : decode cX10_fitsPart 0 = .ok (.iload_n 3, 1) := by decide +kernel
theorem dX10_fitsPart_1 : decode cX10_fitsPart 1 = .ok (.iload_n 2, 1) := by decide +kernel
theorem dX10_fitsPart_2 : decode cX10_fitsPart 2 = .ok (.ishr, 1) := by decide +kernel
theorem dX10_fitsPart_3 : decode cX10_fitsPart 3 = .ok (.iconst 1, 1) := by decide +kernel
theorem dX10_fitsPart_4 : decode cX10_fitsPart 4 = .ok (.iand, 1) := by decide +kernel
theorem dX10_fitsPart_5 : decode cX10_fitsPart 5 = .ok (.ifCond .eq 18, 3) := by decide +kernel
theorem dX10_fitsPart_8 : decode cX10_fitsPart 8 = .ok (.aload_n 0, 1) := by decide +kernel
theorem dX10_fitsPart_9 : decode cX10_fitsPart 9 = .ok (.getfield 16, 3) := by decide +kernel
theorem dX10_fitsPart_12 : decode cX10_fitsPart 12 = .ok (.iload_n 2, 1) := by decide +kernel
theorem dX10_fitsPart_13 : decode cX10_fitsPart 13 = .ok (.iaload, 1) := by decide +kernel
theorem dX10_fitsPart_14 : decode cX10_fitsPart 14 = .ok (.aload_n 0, 1) := by decide +kernel
theorem dX10_fitsPart_15 : decode cX10_fitsPart 15 = .ok (.getfield 57, 3) := by decide +kernel
theorem dX10_fitsPart_18 : decode cX10_fitsPart 18 = .ok (.iload_n 1, 1) := by decide +kernel
theorem dX10_fitsPart_19 : decode cX10_fitsPart 19 = .ok (.iaload, 1) := by decide +kernel
theorem dX10_fitsPart_20 : decode cX10_fitsPart 20 = .ok (.if_icmp .eq 5, 3) := by decide +kernel
theorem dX10_fitsPart_23 : decode cX10_fitsPart 23 = .ok (.iconst 0, 1) := by decide +kernel
theorem dX10_fitsPart_24 : decode cX10_fitsPart 24 = .ok (.ireturn, 1) := by decide +kernel
theorem dX10_fitsPart_25 : decode cX10_fitsPart 25 = .ok (.iconst 0, 1) := by decide +kernel
theorem dX10_fitsPart_26 : decode cX10_fitsPart 26 = .ok (.istore 4, 2) := by decide +kernel
theorem dX10_fitsPart_28 : decode cX10_fitsPart 28 = .ok (.iload 4, 2) := by decide +kernel
theorem dX10_fitsPart_30 : decode cX10_fitsPart 30 = .ok (.bipush 6, 2) := by decide +kernel
theorem dX10_fitsPart_32 : decode cX10_fitsPart 32 = .ok (.if_icmp .ge 69, 3) := by decide +kernel
theorem dX10_fitsPart_35 : decode cX10_fitsPart 35 = .ok (.aload_n 0, 1) := by decide +kernel
theorem dX10_fitsPart_36 : decode cX10_fitsPart 36 = .ok (.getfield 60, 3) := by decide +kernel
theorem dX10_fitsPart_39 : decode cX10_fitsPart 39 = .ok (.bipush 6, 2) := by decide +kernel
theorem dX10_fitsPart_41 : decode cX10_fitsPart 41 = .ok (.iload_n 1, 1) := by decide +kernel
theorem dX10_fitsPart_42 : decode cX10_fitsPart 42 = .ok (.imul, 1) := by decide +kernel
theorem dX10_fitsPart_43 : decode cX10_fitsPart 43 = .ok (.iload 4, 2) := by decide +kernel
theorem dX10_fitsPart_45 : decode cX10_fitsPart 45 = .ok (.iadd, 1) := by decide +kernel
theorem dX10_fitsPart_46 : decode cX10_fitsPart 46 = .ok (.baload, 1) := by decide +kernel
theorem dX10_fitsPart_47 : decode cX10_fitsPart 47 = .ok (.ifCond .eq 48, 3) := by decide +kernel
theorem dX10_fitsPart_50 : decode cX10_fitsPart 50 = .ok (.aload_n 0, 1) := by decide +kernel
theorem dX10_fitsPart_51 : decode cX10_fitsPart 51 = .ok (.getfield 26, 3) := by decide +kernel
theorem dX10_fitsPart_54 : decode cX10_fitsPart 54 = .ok (.bipush 6, 2) := by decide +kernel
theorem dX10_fitsPart_56 : decode cX10_fitsPart 56 = .ok (.iload_n 2, 1) := by decide +kernel
theorem dX10_fitsPart_57 : decode cX10_fitsPart 57 = .ok (.imul, 1) := by decide +kernel
theorem dX10_fitsPart_58 : decode cX10_fitsPart 58 = .ok (.iload 4, 2) := by decide +kernel
theorem dX10_fitsPart_60 : decode cX10_fitsPart 60 = .ok (.iadd, 1) := by decide +kernel
theorem dX10_fitsPart_61 : decode cX10_fitsPart 61 = .ok (.baload, 1) := by decide +kernel
theorem dX10_fitsPart_62 : decode cX10_fitsPart 62 = .ok (.ifCond .eq 31, 3) := by decide +kernel
theorem dX10_fitsPart_65 : decode cX10_fitsPart 65 = .ok (.aload_n 0, 1) := by decide +kernel
theorem dX10_fitsPart_66 : decode cX10_fitsPart 66 = .ok (.getfield 29, 3) := by decide +kernel
theorem dX10_fitsPart_69 : decode cX10_fitsPart 69 = .ok (.bipush 6, 2) := by decide +kernel
theorem dX10_fitsPart_71 : decode cX10_fitsPart 71 = .ok (.iload_n 2, 1) := by decide +kernel
theorem dX10_fitsPart_72 : decode cX10_fitsPart 72 = .ok (.imul, 1) := by decide +kernel
theorem dX10_fitsPart_73 : decode cX10_fitsPart 73 = .ok (.iload 4, 2) := by decide +kernel
theorem dX10_fitsPart_75 : decode cX10_fitsPart 75 = .ok (.iadd, 1) := by decide +kernel
theorem dX10_fitsPart_76 : decode cX10_fitsPart 76 = .ok (.laload, 1) := by decide +kernel
theorem dX10_fitsPart_77 : decode cX10_fitsPart 77 = .ok (.aload_n 0, 1) := by decide +kernel
theorem dX10_fitsPart_78 : decode cX10_fitsPart 78 = .ok (.getfield 63, 3) := by decide +kernel
theorem dX10_fitsPart_81 : decode cX10_fitsPart 81 = .ok (.bipush 6, 2) := by decide +kernel
theorem dX10_fitsPart_83 : decode cX10_fitsPart 83 = .ok (.iload_n 1, 1) := by decide +kernel
theorem dX10_fitsPart_84 : decode cX10_fitsPart 84 = .ok (.imul, 1) := by decide +kernel
theorem dX10_fitsPart_85 : decode cX10_fitsPart 85 = .ok (.iload 4, 2) := by decide +kernel
theorem dX10_fitsPart_87 : decode cX10_fitsPart 87 = .ok (.iadd, 1) := by decide +kernel
theorem dX10_fitsPart_88 : decode cX10_fitsPart 88 = .ok (.laload, 1) := by decide +kernel
theorem dX10_fitsPart_89 : decode cX10_fitsPart 89 = .ok (.lcmp, 1) := by decide +kernel
theorem dX10_fitsPart_90 : decode cX10_fitsPart 90 = .ok (.ifCond .eq 5, 3) := by decide +kernel
theorem dX10_fitsPart_93 : decode cX10_fitsPart 93 = .ok (.iconst 0, 1) := by decide +kernel
theorem dX10_fitsPart_94 : decode cX10_fitsPart 94 = .ok (.ireturn, 1) := by decide +kernel
theorem dX10_fitsPart_95 : decode cX10_fitsPart 95 = .ok (.iinc 4 1, 3) := by decide +kernel
theorem dX10_fitsPart_98 : decode cX10_fitsPart 98 = .ok (.goto (-70), 3) := by decide +kernel
theorem dX10_fitsPart_101 : decode cX10_fitsPart 101 = .ok (.iconst 1, 1) := by decide +kernel
theorem dX10_fitsPart_102 : decode cX10_fitsPart 102 = .ok (.ireturn, 1) := by decide +kernel
theorem dX10_standsIn_0 : decode cX10_standsIn 0 = .ok (.iconst 1, 1) := by decide +kernel
theorem dX10_standsIn_1 : decode cX10_standsIn 1 = .ok (.istore_n 2, 1) := by decide +kernel
theorem dX10_standsIn_2 : decode cX10_standsIn 2 = .ok (.iconst 0, 1) := by decide +kernel
theorem dX10_standsIn_3 : decode cX10_standsIn 3 = .ok (.istore_n 3, 1) := by decide +kernel
theorem dX10_standsIn_4 : decode cX10_standsIn 4 = .ok (.iload_n 3, 1) := by decide +kernel
theorem dX10_standsIn_5 : decode cX10_standsIn 5 = .ok (.aload_n 0, 1) := by decide +kernel
theorem dX10_standsIn_6 : decode cX10_standsIn 6 = .ok (.getfield 209, 3) := by decide +kernel
theorem dX10_standsIn_9 : decode cX10_standsIn 9 = .ok (.if_icmp .ge 16, 3) := by decide +kernel
theorem dX10_standsIn_12 : decode cX10_standsIn 12 = .ok (.iload_n 2, 1) := by decide +kernel
theorem dX10_standsIn_13 : decode cX10_standsIn 13 = .ok (.aload_n 0, 1) := by decide +kernel
theorem dX10_standsIn_14 : decode cX10_standsIn 14 = .ok (.getfield 106, 3) := by decide +kernel
theorem dX10_standsIn_17 : decode cX10_standsIn 17 = .ok (.imul, 1) := by decide +kernel
theorem dX10_standsIn_18 : decode cX10_standsIn 18 = .ok (.istore_n 2, 1) := by decide +kernel
theorem dX10_standsIn_19 : decode cX10_standsIn 19 = .ok (.iinc 3 1, 3) := by decide +kernel
theorem dX10_standsIn_22 : decode cX10_standsIn 22 = .ok (.goto (-18), 3) := by decide +kernel
theorem dX10_standsIn_25 : decode cX10_standsIn 25 = .ok (.iconst 0, 1) := by decide +kernel
theorem dX10_standsIn_26 : decode cX10_standsIn 26 = .ok (.istore_n 3, 1) := by decide +kernel
theorem dX10_standsIn_27 : decode cX10_standsIn 27 = .ok (.iload_n 3, 1) := by decide +kernel
theorem dX10_standsIn_28 : decode cX10_standsIn 28 = .ok (.iload_n 2, 1) := by decide +kernel
theorem dX10_standsIn_29 : decode cX10_standsIn 29 = .ok (.if_icmp .ge 159, 3) := by decide +kernel
theorem dX10_standsIn_32 : decode cX10_standsIn 32 = .ok (.iload_n 3, 1) := by decide +kernel
theorem dX10_standsIn_33 : decode cX10_standsIn 33 = .ok (.istore 4, 2) := by decide +kernel
theorem dX10_standsIn_35 : decode cX10_standsIn 35 = .ok (.iconst 1, 1) := by decide +kernel
theorem dX10_standsIn_36 : decode cX10_standsIn 36 = .ok (.istore 5, 2) := by decide +kernel
theorem dX10_standsIn_38 : decode cX10_standsIn 38 = .ok (.iconst 0, 1) := by decide +kernel
theorem dX10_standsIn_39 : decode cX10_standsIn 39 = .ok (.istore 6, 2) := by decide +kernel
theorem dX10_standsIn_41 : decode cX10_standsIn 41 = .ok (.iload 6, 2) := by decide +kernel
theorem dX10_standsIn_43 : decode cX10_standsIn 43 = .ok (.aload_n 0, 1) := by decide +kernel
theorem dX10_standsIn_44 : decode cX10_standsIn 44 = .ok (.getfield 209, 3) := by decide +kernel
theorem dX10_standsIn_47 : decode cX10_standsIn 47 = .ok (.if_icmp .ge 61, 3) := by decide +kernel
theorem dX10_standsIn_50 : decode cX10_standsIn 50 = .ok (.aload_n 0, 1) := by decide +kernel
theorem dX10_standsIn_51 : decode cX10_standsIn 51 = .ok (.getfield 90, 3) := by decide +kernel
theorem dX10_standsIn_54 : decode cX10_standsIn 54 = .ok (.iload 6, 2) := by decide +kernel
theorem dX10_standsIn_56 : decode cX10_standsIn 56 = .ok (.iload 4, 2) := by decide +kernel
theorem dX10_standsIn_58 : decode cX10_standsIn 58 = .ok (.aload_n 0, 1) := by decide +kernel
theorem dX10_standsIn_59 : decode cX10_standsIn 59 = .ok (.getfield 106, 3) := by decide +kernel
theorem dX10_standsIn_62 : decode cX10_standsIn 62 = .ok (.irem, 1) := by decide +kernel
theorem dX10_standsIn_63 : decode cX10_standsIn 63 = .ok (.iastore, 1) := by decide +kernel
theorem dX10_standsIn_64 : decode cX10_standsIn 64 = .ok (.iload 4, 2) := by decide +kernel
theorem dX10_standsIn_66 : decode cX10_standsIn 66 = .ok (.aload_n 0, 1) := by decide +kernel
theorem dX10_standsIn_67 : decode cX10_standsIn 67 = .ok (.getfield 106, 3) := by decide +kernel
theorem dX10_standsIn_70 : decode cX10_standsIn 70 = .ok (.idiv, 1) := by decide +kernel
theorem dX10_standsIn_71 : decode cX10_standsIn 71 = .ok (.istore 4, 2) := by decide +kernel
theorem dX10_standsIn_73 : decode cX10_standsIn 73 = .ok (.iload 5, 2) := by decide +kernel
theorem dX10_standsIn_75 : decode cX10_standsIn 75 = .ok (.ifCond .eq 24, 3) := by decide +kernel
theorem dX10_standsIn_78 : decode cX10_standsIn 78 = .ok (.aload_n 0, 1) := by decide +kernel
theorem dX10_standsIn_79 : decode cX10_standsIn 79 = .ok (.iload 6, 2) := by decide +kernel
theorem dX10_standsIn_81 : decode cX10_standsIn 81 = .ok (.aload_n 0, 1) := by decide +kernel
theorem dX10_standsIn_82 : decode cX10_standsIn 82 = .ok (.getfield 90, 3) := by decide +kernel
theorem dX10_standsIn_85 : decode cX10_standsIn 85 = .ok (.iload 6, 2) := by decide +kernel
theorem dX10_standsIn_87 : decode cX10_standsIn 87 = .ok (.iaload, 1) := by decide +kernel
theorem dX10_standsIn_88 : decode cX10_standsIn 88 = .ok (.iload_n 1, 1) := by decide +kernel
theorem dX10_standsIn_89 : decode cX10_standsIn 89 = .ok (.invokevirtual 218, 3) := by decide +kernel
theorem dX10_standsIn_92 : decode cX10_standsIn 92 = .ok (.ifCond .eq 7, 3) := by decide +kernel
theorem dX10_standsIn_95 : decode cX10_standsIn 95 = .ok (.iconst 1, 1) := by decide +kernel
theorem dX10_standsIn_96 : decode cX10_standsIn 96 = .ok (.goto 4, 3) := by decide +kernel
theorem dX10_standsIn_99 : decode cX10_standsIn 99 = .ok (.iconst 0, 1) := by decide +kernel
theorem dX10_standsIn_100 : decode cX10_standsIn 100 = .ok (.istore 5, 2) := by decide +kernel
theorem dX10_standsIn_102 : decode cX10_standsIn 102 = .ok (.iinc 6 1, 3) := by decide +kernel
theorem dX10_standsIn_105 : decode cX10_standsIn 105 = .ok (.goto (-64), 3) := by decide +kernel
theorem dX10_standsIn_108 : decode cX10_standsIn 108 = .ok (.iconst 0, 1) := by decide +kernel
theorem dX10_standsIn_109 : decode cX10_standsIn 109 = .ok (.istore 6, 2) := by decide +kernel
theorem dX10_standsIn_111 : decode cX10_standsIn 111 = .ok (.iload 6, 2) := by decide +kernel
theorem dX10_standsIn_113 : decode cX10_standsIn 113 = .ok (.aload_n 0, 1) := by decide +kernel
theorem dX10_standsIn_114 : decode cX10_standsIn 114 = .ok (.getfield 212, 3) := by decide +kernel
theorem dX10_standsIn_117 : decode cX10_standsIn 117 = .ok (.if_icmp .ge 58, 3) := by decide +kernel
theorem dX10_standsIn_120 : decode cX10_standsIn 120 = .ok (.iload 5, 2) := by decide +kernel
theorem dX10_standsIn_122 : decode cX10_standsIn 122 = .ok (.ifCond .eq 53, 3) := by decide +kernel
theorem dX10_standsIn_125 : decode cX10_standsIn 125 = .ok (.aload_n 0, 1) := by decide +kernel
theorem dX10_standsIn_126 : decode cX10_standsIn 126 = .ok (.aload_n 0, 1) := by decide +kernel
theorem dX10_standsIn_127 : decode cX10_standsIn 127 = .ok (.getfield 90, 3) := by decide +kernel
theorem dX10_standsIn_130 : decode cX10_standsIn 130 = .ok (.aload_n 0, 1) := by decide +kernel
theorem dX10_standsIn_131 : decode cX10_standsIn 131 = .ok (.getfield 66, 3) := by decide +kernel
theorem dX10_standsIn_134 : decode cX10_standsIn 134 = .ok (.iload 6, 2) := by decide +kernel
theorem dX10_standsIn_136 : decode cX10_standsIn 136 = .ok (.iaload, 1) := by decide +kernel
theorem dX10_standsIn_137 : decode cX10_standsIn 137 = .ok (.iaload, 1) := by decide +kernel
theorem dX10_standsIn_138 : decode cX10_standsIn 138 = .ok (.aload_n 0, 1) := by decide +kernel
theorem dX10_standsIn_139 : decode cX10_standsIn 139 = .ok (.getfield 69, 3) := by decide +kernel
theorem dX10_standsIn_142 : decode cX10_standsIn 142 = .ok (.iload 6, 2) := by decide +kernel
theorem dX10_standsIn_144 : decode cX10_standsIn 144 = .ok (.iaload, 1) := by decide +kernel
theorem dX10_standsIn_145 : decode cX10_standsIn 145 = .ok (.aload_n 0, 1) := by decide +kernel
theorem dX10_standsIn_146 : decode cX10_standsIn 146 = .ok (.getfield 90, 3) := by decide +kernel
theorem dX10_standsIn_149 : decode cX10_standsIn 149 = .ok (.aload_n 0, 1) := by decide +kernel
theorem dX10_standsIn_150 : decode cX10_standsIn 150 = .ok (.getfield 72, 3) := by decide +kernel
theorem dX10_standsIn_153 : decode cX10_standsIn 153 = .ok (.iload 6, 2) := by decide +kernel
theorem dX10_standsIn_155 : decode cX10_standsIn 155 = .ok (.iaload, 1) := by decide +kernel
theorem dX10_standsIn_156 : decode cX10_standsIn 156 = .ok (.iaload, 1) := by decide +kernel
theorem dX10_standsIn_157 : decode cX10_standsIn 157 = .ok (.aload_n 0, 1) := by decide +kernel
theorem dX10_standsIn_158 : decode cX10_standsIn 158 = .ok (.getfield 75, 3) := by decide +kernel
theorem dX10_standsIn_161 : decode cX10_standsIn 161 = .ok (.iload 6, 2) := by decide +kernel
theorem dX10_standsIn_163 : decode cX10_standsIn 163 = .ok (.iaload, 1) := by decide +kernel
theorem dX10_standsIn_164 : decode cX10_standsIn 164 = .ok (.invokevirtual 150, 3) := by decide +kernel
theorem dX10_standsIn_167 : decode cX10_standsIn 167 = .ok (.istore 5, 2) := by decide +kernel
theorem dX10_standsIn_169 : decode cX10_standsIn 169 = .ok (.iinc 6 1, 3) := by decide +kernel
theorem dX10_standsIn_172 : decode cX10_standsIn 172 = .ok (.goto (-61), 3) := by decide +kernel
theorem dX10_standsIn_175 : decode cX10_standsIn 175 = .ok (.iload 5, 2) := by decide +kernel
theorem dX10_standsIn_177 : decode cX10_standsIn 177 = .ok (.ifCond .eq 5, 3) := by decide +kernel
theorem dX10_standsIn_180 : decode cX10_standsIn 180 = .ok (.iconst 1, 1) := by decide +kernel
theorem dX10_standsIn_181 : decode cX10_standsIn 181 = .ok (.ireturn, 1) := by decide +kernel
theorem dX10_standsIn_182 : decode cX10_standsIn 182 = .ok (.iinc 3 1, 3) := by decide +kernel
theorem dX10_standsIn_185 : decode cX10_standsIn 185 = .ok (.goto (-158), 3) := by decide +kernel
theorem dX10_standsIn_188 : decode cX10_standsIn 188 = .ok (.iconst 0, 1) := by decide +kernel
theorem dX10_standsIn_189 : decode cX10_standsIn 189 = .ok (.ireturn, 1) := by decide +kernel
theorem dX10_stands_0 : decode cX10_stands 0 = .ok (.aload_n 0, 1) := by decide +kernel
theorem dX10_stands_1 : decode cX10_stands 1 = .ok (.iconst 0, 1) := by decide +kernel
theorem dX10_stands_2 : decode cX10_stands 2 = .ok (.putfield 93, 3) := by decide +kernel
theorem dX10_stands_5 : decode cX10_stands 5 = .ok (.aload_n 0, 1) := by decide +kernel
theorem dX10_stands_6 : decode cX10_stands 6 = .ok (.aload_n 0, 1) := by decide +kernel
theorem dX10_stands_7 : decode cX10_stands 7 = .ok (.invokevirtual 170, 3) := by decide +kernel
theorem dX10_stands_10 : decode cX10_stands 10 = .ok (.invokevirtual 221, 3) := by decide +kernel
theorem dX10_stands_13 : decode cX10_stands 13 = .ok (.ifCond .eq 7, 3) := by decide +kernel
theorem dX10_stands_16 : decode cX10_stands 16 = .ok (.iconst 1, 1) := by decide +kernel
theorem dX10_stands_17 : decode cX10_stands 17 = .ok (.goto 4, 3) := by decide +kernel
theorem dX10_stands_20 : decode cX10_stands 20 = .ok (.iconst 0, 1) := by decide +kernel
theorem dX10_stands_21 : decode cX10_stands 21 = .ok (.ireturn, 1) := by decide +kernel
theorem dX10_oftenOf_0 : decode cX10_oftenOf 0 = .ok (.aload_n 0, 1) := by decide +kernel
theorem dX10_oftenOf_1 : decode cX10_oftenOf 1 = .ok (.invokevirtual 196, 3) := by decide +kernel
theorem dX10_oftenOf_4 : decode cX10_oftenOf 4 = .ok (.iconst 0, 1) := by decide +kernel
theorem dX10_oftenOf_5 : decode cX10_oftenOf 5 = .ok (.istore_n 1, 1) := by decide +kernel
theorem dX10_oftenOf_6 : decode cX10_oftenOf 6 = .ok (.iconst 0, 1) := by decide +kernel
theorem dX10_oftenOf_7 : decode cX10_oftenOf 7 = .ok (.istore_n 2, 1) := by decide +kernel
theorem dX10_oftenOf_8 : decode cX10_oftenOf 8 = .ok (.iload_n 2, 1) := by decide +kernel
theorem dX10_oftenOf_9 : decode cX10_oftenOf 9 = .ok (.aload_n 0, 1) := by decide +kernel
theorem dX10_oftenOf_10 : decode cX10_oftenOf 10 = .ok (.getfield 193, 3) := by decide +kernel
theorem dX10_oftenOf_13 : decode cX10_oftenOf 13 = .ok (.if_icmp .ge 37, 3) := by decide +kernel
theorem dX10_oftenOf_16 : decode cX10_oftenOf 16 = .ok (.iload_n 1, 1) := by decide +kernel
theorem dX10_oftenOf_17 : decode cX10_oftenOf 17 = .ok (.aload_n 0, 1) := by decide +kernel
theorem dX10_oftenOf_18 : decode cX10_oftenOf 18 = .ok (.aload_n 0, 1) := by decide +kernel
theorem dX10_oftenOf_19 : decode cX10_oftenOf 19 = .ok (.invokevirtual 170, 3) := by decide +kernel
theorem dX10_oftenOf_22 : decode cX10_oftenOf 22 = .ok (.aload_n 0, 1) := by decide +kernel
theorem dX10_oftenOf_23 : decode cX10_oftenOf 23 = .ok (.getfield 78, 3) := by decide +kernel
theorem dX10_oftenOf_26 : decode cX10_oftenOf 26 = .ok (.iload_n 2, 1) := by decide +kernel
theorem dX10_oftenOf_27 : decode cX10_oftenOf 27 = .ok (.iaload, 1) := by decide +kernel
theorem dX10_oftenOf_28 : decode cX10_oftenOf 28 = .ok (.iconst (-1), 1) := by decide +kernel
theorem dX10_oftenOf_29 : decode cX10_oftenOf 29 = .ok (.ixor, 1) := by decide +kernel
theorem dX10_oftenOf_30 : decode cX10_oftenOf 30 = .ok (.iand, 1) := by decide +kernel
theorem dX10_oftenOf_31 : decode cX10_oftenOf 31 = .ok (.invokevirtual 221, 3) := by decide +kernel
theorem dX10_oftenOf_34 : decode cX10_oftenOf 34 = .ok (.ifCond .eq 7, 3) := by decide +kernel
theorem dX10_oftenOf_37 : decode cX10_oftenOf 37 = .ok (.iconst 1, 1) := by decide +kernel
theorem dX10_oftenOf_38 : decode cX10_oftenOf 38 = .ok (.goto 4, 3) := by decide +kernel
theorem dX10_oftenOf_41 : decode cX10_oftenOf 41 = .ok (.iconst 0, 1) := by decide +kernel
theorem dX10_oftenOf_42 : decode cX10_oftenOf 42 = .ok (.iadd, 1) := by decide +kernel
theorem dX10_oftenOf_43 : decode cX10_oftenOf 43 = .ok (.istore_n 1, 1) := by decide +kernel
theorem dX10_oftenOf_44 : decode cX10_oftenOf 44 = .ok (.iinc 2 1, 3) := by decide +kernel
theorem dX10_oftenOf_47 : decode cX10_oftenOf 47 = .ok (.goto (-39), 3) := by decide +kernel
theorem dX10_oftenOf_50 : decode cX10_oftenOf 50 = .ok (.iload_n 1, 1) := by decide +kernel
theorem dX10_oftenOf_51 : decode cX10_oftenOf 51 = .ok (.ireturn, 1) := by decide +kernel
theorem dX10_often_0 : decode cX10_often 0 = .ok (.aload_n 0, 1) := by decide +kernel
theorem dX10_often_1 : decode cX10_often 1 = .ok (.iconst 0, 1) := by decide +kernel
theorem dX10_often_2 : decode cX10_often 2 = .ok (.putfield 93, 3) := by decide +kernel
theorem dX10_often_5 : decode cX10_often 5 = .ok (.aload_n 0, 1) := by decide +kernel
theorem dX10_often_6 : decode cX10_often 6 = .ok (.invokevirtual 224, 3) := by decide +kernel
theorem dX10_often_9 : decode cX10_often 9 = .ok (.ireturn, 1) := by decide +kernel
theorem dX10_sure_0 : decode cX10_sure 0 = .ok (.aload_n 0, 1) := by decide +kernel
theorem dX10_sure_1 : decode cX10_sure 1 = .ok (.iconst 0, 1) := by decide +kernel
theorem dX10_sure_2 : decode cX10_sure 2 = .ok (.putfield 93, 3) := by decide +kernel
theorem dX10_sure_5 : decode cX10_sure 5 = .ok (.aload_n 0, 1) := by decide +kernel
theorem dX10_sure_6 : decode cX10_sure 6 = .ok (.invokevirtual 224, 3) := by decide +kernel
theorem dX10_sure_9 : decode cX10_sure 9 = .ok (.istore_n 1, 1) := by decide +kernel
theorem dX10_sure_10 : decode cX10_sure 10 = .ok (.iload_n 1, 1) := by decide +kernel
theorem dX10_sure_11 : decode cX10_sure 11 = .ok (.aload_n 0, 1) := by decide +kernel
theorem dX10_sure_12 : decode cX10_sure 12 = .ok (.getfield 193, 3) := by decide +kernel
theorem dX10_sure_15 : decode cX10_sure 15 = .ok (.if_icmp .ne 7, 3) := by decide +kernel
theorem dX10_sure_18 : decode cX10_sure 18 = .ok (.iconst 2, 1) := by decide +kernel
theorem dX10_sure_19 : decode cX10_sure 19 = .ok (.goto 12, 3) := by decide +kernel
theorem dX10_sure_22 : decode cX10_sure 22 = .ok (.iload_n 1, 1) := by decide +kernel
theorem dX10_sure_23 : decode cX10_sure 23 = .ok (.ifCond .le 7, 3) := by decide +kernel
theorem dX10_sure_26 : decode cX10_sure 26 = .ok (.iconst 1, 1) := by decide +kernel
theorem dX10_sure_27 : decode cX10_sure 27 = .ok (.goto 4, 3) := by decide +kernel
theorem dX10_sure_30 : decode cX10_sure 30 = .ok (.iconst 0, 1) := by decide +kernel
theorem dX10_sure_31 : decode cX10_sure 31 = .ok (.ireturn, 1) := by decide +kernel
theorem dX10_against_0 : decode cX10_against 0 = .ok (.aload_n 0, 1) := by decide +kernel
theorem dX10_against_1 : decode cX10_against 1 = .ok (.iconst 0, 1) := by decide +kernel
theorem dX10_against_2 : decode cX10_against 2 = .ok (.putfield 93, 3) := by decide +kernel
theorem dX10_against_5 : decode cX10_against 5 = .ok (.aload_n 0, 1) := by decide +kernel
theorem dX10_against_6 : decode cX10_against 6 = .ok (.invokevirtual 196, 3) := by decide +kernel
theorem dX10_against_9 : decode cX10_against 9 = .ok (.iconst 0, 1) := by decide +kernel
theorem dX10_against_10 : decode cX10_against 10 = .ok (.istore_n 1, 1) := by decide +kernel
theorem dX10_against_11 : decode cX10_against 11 = .ok (.iload_n 1, 1) := by decide +kernel
theorem dX10_against_12 : decode cX10_against 12 = .ok (.aload_n 0, 1) := by decide +kernel
theorem dX10_against_13 : decode cX10_against 13 = .ok (.getfield 193, 3) := by decide +kernel
theorem dX10_against_16 : decode cX10_against 16 = .ok (.if_icmp .ge 36, 3) := by decide +kernel
theorem dX10_against_19 : decode cX10_against 19 = .ok (.aload_n 0, 1) := by decide +kernel
theorem dX10_against_20 : decode cX10_against 20 = .ok (.aload_n 0, 1) := by decide +kernel
theorem dX10_against_21 : decode cX10_against 21 = .ok (.invokevirtual 170, 3) := by decide +kernel
theorem dX10_against_24 : decode cX10_against 24 = .ok (.aload_n 0, 1) := by decide +kernel
theorem dX10_against_25 : decode cX10_against 25 = .ok (.getfield 78, 3) := by decide +kernel
theorem dX10_against_28 : decode cX10_against 28 = .ok (.iload_n 1, 1) := by decide +kernel
theorem dX10_against_29 : decode cX10_against 29 = .ok (.iaload, 1) := by decide +kernel
theorem dX10_against_30 : decode cX10_against 30 = .ok (.iconst (-1), 1) := by decide +kernel
theorem dX10_against_31 : decode cX10_against 31 = .ok (.ixor, 1) := by decide +kernel
theorem dX10_against_32 : decode cX10_against 32 = .ok (.iand, 1) := by decide +kernel
theorem dX10_against_33 : decode cX10_against 33 = .ok (.invokevirtual 221, 3) := by decide +kernel
theorem dX10_against_36 : decode cX10_against 36 = .ok (.ifCond .ne 10, 3) := by decide +kernel
theorem dX10_against_39 : decode cX10_against 39 = .ok (.aload_n 0, 1) := by decide +kernel
theorem dX10_against_40 : decode cX10_against 40 = .ok (.getfield 78, 3) := by decide +kernel
theorem dX10_against_43 : decode cX10_against 43 = .ok (.iload_n 1, 1) := by decide +kernel
theorem dX10_against_44 : decode cX10_against 44 = .ok (.iaload, 1) := by decide +kernel
theorem dX10_against_45 : decode cX10_against 45 = .ok (.ireturn, 1) := by decide +kernel
theorem dX10_against_46 : decode cX10_against 46 = .ok (.iinc 1 1, 3) := by decide +kernel
theorem dX10_against_49 : decode cX10_against 49 = .ok (.goto (-38), 3) := by decide +kernel
theorem dX10_against_52 : decode cX10_against 52 = .ok (.bipush (-9), 2) := by decide +kernel
theorem dX10_against_54 : decode cX10_against 54 = .ok (.ireturn, 1) := by decide +kernel
theorem dX10_count_0 : decode cX10_count 0 = .ok (.aload_n 0, 1) := by decide +kernel
theorem dX10_count_1 : decode cX10_count 1 = .ok (.iconst 0, 1) := by decide +kernel
theorem dX10_count_2 : decode cX10_count 2 = .ok (.putfield 93, 3) := by decide +kernel
theorem dX10_count_5 : decode cX10_count 5 = .ok (.iload_n 1, 1) := by decide +kernel
theorem dX10_count_6 : decode cX10_count 6 = .ok (.tableswitch 109 0 6 #[42, 47, 52, 57, 62, 67, 75], 42) := by decide +kernel
theorem dX10_count_48 : decode cX10_count 48 = .ok (.aload_n 0, 1) := by decide +kernel
theorem dX10_count_49 : decode cX10_count 49 = .ok (.getfield 106, 3) := by decide +kernel
theorem dX10_count_52 : decode cX10_count 52 = .ok (.ireturn, 1) := by decide +kernel
theorem dX10_count_53 : decode cX10_count 53 = .ok (.aload_n 0, 1) := by decide +kernel
theorem dX10_count_54 : decode cX10_count 54 = .ok (.getfield 109, 3) := by decide +kernel
theorem dX10_count_57 : decode cX10_count 57 = .ok (.ireturn, 1) := by decide +kernel
theorem dX10_count_58 : decode cX10_count 58 = .ok (.aload_n 0, 1) := by decide +kernel
theorem dX10_count_59 : decode cX10_count 59 = .ok (.getfield 209, 3) := by decide +kernel
theorem dX10_count_62 : decode cX10_count 62 = .ok (.ireturn, 1) := by decide +kernel
theorem dX10_count_63 : decode cX10_count 63 = .ok (.aload_n 0, 1) := by decide +kernel
theorem dX10_count_64 : decode cX10_count 64 = .ok (.getfield 212, 3) := by decide +kernel
theorem dX10_count_67 : decode cX10_count 67 = .ok (.ireturn, 1) := by decide +kernel
theorem dX10_count_68 : decode cX10_count 68 = .ok (.aload_n 0, 1) := by decide +kernel
theorem dX10_count_69 : decode cX10_count 69 = .ok (.getfield 97, 3) := by decide +kernel
theorem dX10_count_72 : decode cX10_count 72 = .ok (.ireturn, 1) := by decide +kernel
theorem dX10_count_73 : decode cX10_count 73 = .ok (.aload_n 0, 1) := by decide +kernel
theorem dX10_count_74 : decode cX10_count 74 = .ok (.invokevirtual 170, 3) := by decide +kernel
theorem dX10_count_77 : decode cX10_count 77 = .ok (.invokestatic 177, 3) := by decide +kernel
theorem dX10_count_80 : decode cX10_count 80 = .ok (.ireturn, 1) := by decide +kernel
theorem dX10_count_81 : decode cX10_count 81 = .ok (.iconst 0, 1) := by decide +kernel
theorem dX10_count_82 : decode cX10_count 82 = .ok (.istore_n 2, 1) := by decide +kernel
theorem dX10_count_83 : decode cX10_count 83 = .ok (.iconst 0, 1) := by decide +kernel
theorem dX10_count_84 : decode cX10_count 84 = .ok (.istore_n 3, 1) := by decide +kernel
theorem dX10_count_85 : decode cX10_count 85 = .ok (.iload_n 3, 1) := by decide +kernel
theorem dX10_count_86 : decode cX10_count 86 = .ok (.iconst 4, 1) := by decide +kernel
theorem dX10_count_87 : decode cX10_count 87 = .ok (.if_icmp .ge 26, 3) := by decide +kernel
theorem dX10_count_90 : decode cX10_count 90 = .ok (.iload_n 2, 1) := by decide +kernel
theorem dX10_count_91 : decode cX10_count 91 = .ok (.aload_n 0, 1) := by decide +kernel
theorem dX10_count_92 : decode cX10_count 92 = .ok (.getfield 7, 3) := by decide +kernel
theorem dX10_count_95 : decode cX10_count 95 = .ok (.iload_n 3, 1) := by decide +kernel
theorem dX10_count_96 : decode cX10_count 96 = .ok (.iaload, 1) := by decide +kernel
theorem dX10_count_97 : decode cX10_count 97 = .ok (.ifCond .le 7, 3) := by decide +kernel
theorem dX10_count_100 : decode cX10_count 100 = .ok (.iconst 1, 1) := by decide +kernel
theorem dX10_count_101 : decode cX10_count 101 = .ok (.goto 4, 3) := by decide +kernel
theorem dX10_count_104 : decode cX10_count 104 = .ok (.iconst 0, 1) := by decide +kernel
theorem dX10_count_105 : decode cX10_count 105 = .ok (.iadd, 1) := by decide +kernel
theorem dX10_count_106 : decode cX10_count 106 = .ok (.istore_n 2, 1) := by decide +kernel
theorem dX10_count_107 : decode cX10_count 107 = .ok (.iinc 3 1, 3) := by decide +kernel
theorem dX10_count_110 : decode cX10_count 110 = .ok (.goto (-25), 3) := by decide +kernel
theorem dX10_count_113 : decode cX10_count 113 = .ok (.iload_n 2, 1) := by decide +kernel
theorem dX10_count_114 : decode cX10_count 114 = .ok (.ireturn, 1) := by decide +kernel
theorem dX10_count_115 : decode cX10_count 115 = .ok (.bipush (-2), 2) := by decide +kernel
theorem dX10_count_117 : decode cX10_count 117 = .ok (.ireturn, 1) := by decide +kernel
end
section
-- names, fields, the words of the tables by their places: by program (wip/whole/gen01.py) out of the claim's printed texts
theorem dL_law_0 : decode cL_law 0 = .ok (.new 7, 3) := by decide +kernel
theorem dL_law_3 : decode cL_law 3 = .ok (.dup, 1) := by decide +kernel
theorem dL_law_4 : decode cL_law 4 = .ok (.invokespecial 9, 3) := by decide +kernel
theorem dL_law_7 : decode cL_law 7 = .ok (.astore_n 1, 1) := by decide +kernel
theorem dL_law_8 : decode cL_law 8 = .ok (.new 10, 3) := by decide +kernel
theorem dL_law_11 : decode cL_law 11 = .ok (.dup, 1) := by decide +kernel
theorem dL_law_12 : decode cL_law 12 = .ok (.invokespecial 12, 3) := by decide +kernel
theorem dL_law_15 : decode cL_law 15 = .ok (.astore_n 2, 1) := by decide +kernel
theorem dL_law_16 : decode cL_law 16 = .ok (.iconst 0, 1) := by decide +kernel
theorem dL_law_17 : decode cL_law 17 = .ok (.istore_n 3, 1) := by decide +kernel
theorem dL_law_18 : decode cL_law 18 = .ok (.iload_n 3, 1) := by decide +kernel
theorem dL_law_19 : decode cL_law 19 = .ok (.aload_n 0, 1) := by decide +kernel
theorem dL_law_20 : decode cL_law 20 = .ok (.arraylength, 1) := by decide +kernel
theorem dL_law_21 : decode cL_law 21 = .ok (.bipush 9, 2) := by decide +kernel
theorem dL_law_23 : decode cL_law 23 = .ok (.isub, 1) := by decide +kernel
theorem dL_law_24 : decode cL_law 24 = .ok (.if_icmp .gt 1352, 3) := by decide +kernel
theorem dL_law_27 : decode cL_law 27 = .ok (.aload_n 0, 1) := by decide +kernel
theorem dL_law_28 : decode cL_law 28 = .ok (.iload_n 3, 1) := by decide +kernel
theorem dL_law_29 : decode cL_law 29 = .ok (.iaload, 1) := by decide +kernel
theorem dL_law_30 : decode cL_law 30 = .ok (.bipush 63, 2) := by decide +kernel
theorem dL_law_32 : decode cL_law 32 = .ok (.iand, 1) := by decide +kernel
theorem dL_law_33 : decode cL_law 33 = .ok (.tableswitch 1337 0 34 #[155, 198, 231, 304, 337, 370, 404, 447, 480, 529, 562, 701, 754, 803, 827, 850, 883, 896, 919, 932, 955, 968, 981, 1004, 1064, 1077, 1100, 1113, 1136, 1209, 1262, 1275, 1288, 1301, 1314], 155) := by decide +kernel
theorem dL_law_188 : decode cL_law 188 = .ok (.aload_n 1, 1) := by decide +kernel
theorem dL_law_189 : decode cL_law 189 = .ok (.aload_n 0, 1) := by decide +kernel
theorem dL_law_190 : decode cL_law 190 = .ok (.iload_n 3, 1) := by decide +kernel
theorem dL_law_191 : decode cL_law 191 = .ok (.iconst 1, 1) := by decide +kernel
theorem dL_law_192 : decode cL_law 192 = .ok (.iadd, 1) := by decide +kernel
theorem dL_law_193 : decode cL_law 193 = .ok (.iaload, 1) := by decide +kernel
theorem dL_law_194 : decode cL_law 194 = .ok (.aload_n 0, 1) := by decide +kernel
theorem dL_law_195 : decode cL_law 195 = .ok (.iload_n 3, 1) := by decide +kernel
theorem dL_law_196 : decode cL_law 196 = .ok (.iconst 2, 1) := by decide +kernel
theorem dL_law_197 : decode cL_law 197 = .ok (.iadd, 1) := by decide +kernel
theorem dL_law_198 : decode cL_law 198 = .ok (.iaload, 1) := by decide +kernel
theorem dL_law_199 : decode cL_law 199 = .ok (.aload_n 0, 1) := by decide +kernel
theorem dL_law_200 : decode cL_law 200 = .ok (.iload_n 3, 1) := by decide +kernel
theorem dL_law_201 : decode cL_law 201 = .ok (.iconst 3, 1) := by decide +kernel
theorem dL_law_202 : decode cL_law 202 = .ok (.iadd, 1) := by decide +kernel
theorem dL_law_203 : decode cL_law 203 = .ok (.iaload, 1) := by decide +kernel
theorem dL_law_204 : decode cL_law 204 = .ok (.invokevirtual 13, 3) := by decide +kernel
theorem dL_law_207 : decode cL_law 207 = .ok (.aload_n 2, 1) := by decide +kernel
theorem dL_law_208 : decode cL_law 208 = .ok (.aload_n 0, 1) := by decide +kernel
theorem dL_law_209 : decode cL_law 209 = .ok (.iload_n 3, 1) := by decide +kernel
theorem dL_law_210 : decode cL_law 210 = .ok (.iconst 1, 1) := by decide +kernel
theorem dL_law_211 : decode cL_law 211 = .ok (.iadd, 1) := by decide +kernel
theorem dL_law_212 : decode cL_law 212 = .ok (.iaload, 1) := by decide +kernel
theorem dL_law_213 : decode cL_law 213 = .ok (.aload_n 0, 1) := by decide +kernel
theorem dL_law_214 : decode cL_law 214 = .ok (.iload_n 3, 1) := by decide +kernel
theorem dL_law_215 : decode cL_law 215 = .ok (.iconst 2, 1) := by decide +kernel
theorem dL_law_216 : decode cL_law 216 = .ok (.iadd, 1) := by decide +kernel
theorem dL_law_217 : decode cL_law 217 = .ok (.iaload, 1) := by decide +kernel
theorem dL_law_218 : decode cL_law 218 = .ok (.aload_n 0, 1) := by decide +kernel
theorem dL_law_219 : decode cL_law 219 = .ok (.iload_n 3, 1) := by decide +kernel
theorem dL_law_220 : decode cL_law 220 = .ok (.iconst 3, 1) := by decide +kernel
theorem dL_law_221 : decode cL_law 221 = .ok (.iadd, 1) := by decide +kernel
theorem dL_law_222 : decode cL_law 222 = .ok (.iaload, 1) := by decide +kernel
theorem dL_law_223 : decode cL_law 223 = .ok (.invokevirtual 17, 3) := by decide +kernel
theorem dL_law_226 : decode cL_law 226 = .ok (.if_icmp .eq 1144, 3) := by decide +kernel
theorem dL_law_229 : decode cL_law 229 = .ok (.iconst 0, 1) := by decide +kernel
theorem dL_law_230 : decode cL_law 230 = .ok (.ireturn, 1) := by decide +kernel
theorem dL_law_231 : decode cL_law 231 = .ok (.aload_n 1, 1) := by decide +kernel
theorem dL_law_232 : decode cL_law 232 = .ok (.aload_n 0, 1) := by decide +kernel
theorem dL_law_233 : decode cL_law 233 = .ok (.iload_n 3, 1) := by decide +kernel
theorem dL_law_234 : decode cL_law 234 = .ok (.iconst 1, 1) := by decide +kernel
theorem dL_law_235 : decode cL_law 235 = .ok (.iadd, 1) := by decide +kernel
theorem dL_law_236 : decode cL_law 236 = .ok (.iaload, 1) := by decide +kernel
theorem dL_law_237 : decode cL_law 237 = .ok (.aload_n 0, 1) := by decide +kernel
theorem dL_law_238 : decode cL_law 238 = .ok (.iload_n 3, 1) := by decide +kernel
theorem dL_law_239 : decode cL_law 239 = .ok (.iconst 2, 1) := by decide +kernel
theorem dL_law_240 : decode cL_law 240 = .ok (.iadd, 1) := by decide +kernel
theorem dL_law_241 : decode cL_law 241 = .ok (.iaload, 1) := by decide +kernel
theorem dL_law_242 : decode cL_law 242 = .ok (.invokevirtual 18, 3) := by decide +kernel
theorem dL_law_245 : decode cL_law 245 = .ok (.aload_n 2, 1) := by decide +kernel
theorem dL_law_246 : decode cL_law 246 = .ok (.aload_n 0, 1) := by decide +kernel
theorem dL_law_247 : decode cL_law 247 = .ok (.iload_n 3, 1) := by decide +kernel
theorem dL_law_248 : decode cL_law 248 = .ok (.iconst 1, 1) := by decide +kernel
theorem dL_law_249 : decode cL_law 249 = .ok (.iadd, 1) := by decide +kernel
theorem dL_law_250 : decode cL_law 250 = .ok (.iaload, 1) := by decide +kernel
theorem dL_law_251 : decode cL_law 251 = .ok (.aload_n 0, 1) := by decide +kernel
theorem dL_law_252 : decode cL_law 252 = .ok (.iload_n 3, 1) := by decide +kernel
theorem dL_law_253 : decode cL_law 253 = .ok (.iconst 2, 1) := by decide +kernel
theorem dL_law_254 : decode cL_law 254 = .ok (.iadd, 1) := by decide +kernel
theorem dL_law_255 : decode cL_law 255 = .ok (.iaload, 1) := by decide +kernel
theorem dL_law_256 : decode cL_law 256 = .ok (.invokevirtual 22, 3) := by decide +kernel
theorem dL_law_259 : decode cL_law 259 = .ok (.if_icmp .eq 1111, 3) := by decide +kernel
theorem dL_law_262 : decode cL_law 262 = .ok (.iconst 0, 1) := by decide +kernel
theorem dL_law_263 : decode cL_law 263 = .ok (.ireturn, 1) := by decide +kernel
theorem dL_law_264 : decode cL_law 264 = .ok (.aload_n 1, 1) := by decide +kernel
theorem dL_law_265 : decode cL_law 265 = .ok (.aload_n 0, 1) := by decide +kernel
theorem dL_law_266 : decode cL_law 266 = .ok (.iload_n 3, 1) := by decide +kernel
theorem dL_law_267 : decode cL_law 267 = .ok (.iconst 1, 1) := by decide +kernel
theorem dL_law_268 : decode cL_law 268 = .ok (.iadd, 1) := by decide +kernel
theorem dL_law_269 : decode cL_law 269 = .ok (.iaload, 1) := by decide +kernel
theorem dL_law_270 : decode cL_law 270 = .ok (.aload_n 0, 1) := by decide +kernel
theorem dL_law_271 : decode cL_law 271 = .ok (.iload_n 3, 1) := by decide +kernel
theorem dL_law_272 : decode cL_law 272 = .ok (.iconst 2, 1) := by decide +kernel
theorem dL_law_273 : decode cL_law 273 = .ok (.iadd, 1) := by decide +kernel
theorem dL_law_274 : decode cL_law 274 = .ok (.iaload, 1) := by decide +kernel
theorem dL_law_275 : decode cL_law 275 = .ok (.aload_n 0, 1) := by decide +kernel
theorem dL_law_276 : decode cL_law 276 = .ok (.iload_n 3, 1) := by decide +kernel
theorem dL_law_277 : decode cL_law 277 = .ok (.iconst 3, 1) := by decide +kernel
theorem dL_law_278 : decode cL_law 278 = .ok (.iadd, 1) := by decide +kernel
theorem dL_law_279 : decode cL_law 279 = .ok (.iaload, 1) := by decide +kernel
theorem dL_law_280 : decode cL_law 280 = .ok (.i2l, 1) := by decide +kernel
theorem dL_law_281 : decode cL_law 281 = .ok (.bipush 32, 2) := by decide +kernel
theorem dL_law_283 : decode cL_law 283 = .ok (.lshl, 1) := by decide +kernel
theorem dL_law_284 : decode cL_law 284 = .ok (.aload_n 0, 1) := by decide +kernel
theorem dL_law_285 : decode cL_law 285 = .ok (.iload_n 3, 1) := by decide +kernel
theorem dL_law_286 : decode cL_law 286 = .ok (.iconst 4, 1) := by decide +kernel
theorem dL_law_287 : decode cL_law 287 = .ok (.iadd, 1) := by decide +kernel
theorem dL_law_288 : decode cL_law 288 = .ok (.iaload, 1) := by decide +kernel
theorem dL_law_289 : decode cL_law 289 = .ok (.i2l, 1) := by decide +kernel
theorem dL_law_290 : decode cL_law 290 = .ok (.ldc2_w 23, 3) := by decide +kernel
theorem dL_law_293 : decode cL_law 293 = .ok (.land, 1) := by decide +kernel
theorem dL_law_294 : decode cL_law 294 = .ok (.lor, 1) := by decide +kernel
theorem dL_law_295 : decode cL_law 295 = .ok (.invokevirtual 25, 3) := by decide +kernel
theorem dL_law_298 : decode cL_law 298 = .ok (.aload_n 2, 1) := by decide +kernel
theorem dL_law_299 : decode cL_law 299 = .ok (.aload_n 0, 1) := by decide +kernel
theorem dL_law_300 : decode cL_law 300 = .ok (.iload_n 3, 1) := by decide +kernel
theorem dL_law_301 : decode cL_law 301 = .ok (.iconst 1, 1) := by decide +kernel
theorem dL_law_302 : decode cL_law 302 = .ok (.iadd, 1) := by decide +kernel
theorem dL_law_303 : decode cL_law 303 = .ok (.iaload, 1) := by decide +kernel
theorem dL_law_304 : decode cL_law 304 = .ok (.aload_n 0, 1) := by decide +kernel
theorem dL_law_305 : decode cL_law 305 = .ok (.iload_n 3, 1) := by decide +kernel
theorem dL_law_306 : decode cL_law 306 = .ok (.iconst 2, 1) := by decide +kernel
theorem dL_law_307 : decode cL_law 307 = .ok (.iadd, 1) := by decide +kernel
theorem dL_law_308 : decode cL_law 308 = .ok (.iaload, 1) := by decide +kernel
theorem dL_law_309 : decode cL_law 309 = .ok (.aload_n 0, 1) := by decide +kernel
theorem dL_law_310 : decode cL_law 310 = .ok (.iload_n 3, 1) := by decide +kernel
theorem dL_law_311 : decode cL_law 311 = .ok (.iconst 3, 1) := by decide +kernel
theorem dL_law_312 : decode cL_law 312 = .ok (.iadd, 1) := by decide +kernel
theorem dL_law_313 : decode cL_law 313 = .ok (.iaload, 1) := by decide +kernel
theorem dL_law_314 : decode cL_law 314 = .ok (.i2l, 1) := by decide +kernel
theorem dL_law_315 : decode cL_law 315 = .ok (.bipush 32, 2) := by decide +kernel
theorem dL_law_317 : decode cL_law 317 = .ok (.lshl, 1) := by decide +kernel
theorem dL_law_318 : decode cL_law 318 = .ok (.aload_n 0, 1) := by decide +kernel
theorem dL_law_319 : decode cL_law 319 = .ok (.iload_n 3, 1) := by decide +kernel
theorem dL_law_320 : decode cL_law 320 = .ok (.iconst 4, 1) := by decide +kernel
theorem dL_law_321 : decode cL_law 321 = .ok (.iadd, 1) := by decide +kernel
theorem dL_law_322 : decode cL_law 322 = .ok (.iaload, 1) := by decide +kernel
theorem dL_law_323 : decode cL_law 323 = .ok (.i2l, 1) := by decide +kernel
theorem dL_law_324 : decode cL_law 324 = .ok (.ldc2_w 23, 3) := by decide +kernel
theorem dL_law_327 : decode cL_law 327 = .ok (.land, 1) := by decide +kernel
theorem dL_law_328 : decode cL_law 328 = .ok (.lor, 1) := by decide +kernel
theorem dL_law_329 : decode cL_law 329 = .ok (.invokevirtual 29, 3) := by decide +kernel
theorem dL_law_332 : decode cL_law 332 = .ok (.if_icmp .eq 1038, 3) := by decide +kernel
theorem dL_law_335 : decode cL_law 335 = .ok (.iconst 0, 1) := by decide +kernel
theorem dL_law_336 : decode cL_law 336 = .ok (.ireturn, 1) := by decide +kernel
theorem dL_law_337 : decode cL_law 337 = .ok (.aload_n 1, 1) := by decide +kernel
theorem dL_law_338 : decode cL_law 338 = .ok (.aload_n 0, 1) := by decide +kernel
theorem dL_law_339 : decode cL_law 339 = .ok (.iload_n 3, 1) := by decide +kernel
theorem dL_law_340 : decode cL_law 340 = .ok (.iconst 1, 1) := by decide +kernel
theorem dL_law_341 : decode cL_law 341 = .ok (.iadd, 1) := by decide +kernel
theorem dL_law_342 : decode cL_law 342 = .ok (.iaload, 1) := by decide +kernel
theorem dL_law_343 : decode cL_law 343 = .ok (.aload_n 0, 1) := by decide +kernel
theorem dL_law_344 : decode cL_law 344 = .ok (.iload_n 3, 1) := by decide +kernel
theorem dL_law_345 : decode cL_law 345 = .ok (.iconst 2, 1) := by decide +kernel
theorem dL_law_346 : decode cL_law 346 = .ok (.iadd, 1) := by decide +kernel
theorem dL_law_347 : decode cL_law 347 = .ok (.iaload, 1) := by decide +kernel
theorem dL_law_348 : decode cL_law 348 = .ok (.invokevirtual 30, 3) := by decide +kernel
theorem dL_law_351 : decode cL_law 351 = .ok (.aload_n 2, 1) := by decide +kernel
theorem dL_law_352 : decode cL_law 352 = .ok (.aload_n 0, 1) := by decide +kernel
theorem dL_law_353 : decode cL_law 353 = .ok (.iload_n 3, 1) := by decide +kernel
theorem dL_law_354 : decode cL_law 354 = .ok (.iconst 1, 1) := by decide +kernel
theorem dL_law_355 : decode cL_law 355 = .ok (.iadd, 1) := by decide +kernel
theorem dL_law_356 : decode cL_law 356 = .ok (.iaload, 1) := by decide +kernel
theorem dL_law_357 : decode cL_law 357 = .ok (.aload_n 0, 1) := by decide +kernel
theorem dL_law_358 : decode cL_law 358 = .ok (.iload_n 3, 1) := by decide +kernel
theorem dL_law_359 : decode cL_law 359 = .ok (.iconst 2, 1) := by decide +kernel
theorem dL_law_360 : decode cL_law 360 = .ok (.iadd, 1) := by decide +kernel
theorem dL_law_361 : decode cL_law 361 = .ok (.iaload, 1) := by decide +kernel
theorem dL_law_362 : decode cL_law 362 = .ok (.invokevirtual 33, 3) := by decide +kernel
theorem dL_law_365 : decode cL_law 365 = .ok (.if_icmp .eq 1005, 3) := by decide +kernel
theorem dL_law_368 : decode cL_law 368 = .ok (.iconst 0, 1) := by decide +kernel
theorem dL_law_369 : decode cL_law 369 = .ok (.ireturn, 1) := by decide +kernel
theorem dL_law_370 : decode cL_law 370 = .ok (.aload_n 1, 1) := by decide +kernel
theorem dL_law_371 : decode cL_law 371 = .ok (.aload_n 0, 1) := by decide +kernel
theorem dL_law_372 : decode cL_law 372 = .ok (.iload_n 3, 1) := by decide +kernel
theorem dL_law_373 : decode cL_law 373 = .ok (.iconst 1, 1) := by decide +kernel
theorem dL_law_374 : decode cL_law 374 = .ok (.iadd, 1) := by decide +kernel
theorem dL_law_375 : decode cL_law 375 = .ok (.iaload, 1) := by decide +kernel
theorem dL_law_376 : decode cL_law 376 = .ok (.aload_n 0, 1) := by decide +kernel
theorem dL_law_377 : decode cL_law 377 = .ok (.iload_n 3, 1) := by decide +kernel
theorem dL_law_378 : decode cL_law 378 = .ok (.iconst 2, 1) := by decide +kernel
theorem dL_law_379 : decode cL_law 379 = .ok (.iadd, 1) := by decide +kernel
theorem dL_law_380 : decode cL_law 380 = .ok (.iaload, 1) := by decide +kernel
theorem dL_law_381 : decode cL_law 381 = .ok (.invokevirtual 34, 3) := by decide +kernel
theorem dL_law_384 : decode cL_law 384 = .ok (.aload_n 2, 1) := by decide +kernel
theorem dL_law_385 : decode cL_law 385 = .ok (.aload_n 0, 1) := by decide +kernel
theorem dL_law_386 : decode cL_law 386 = .ok (.iload_n 3, 1) := by decide +kernel
theorem dL_law_387 : decode cL_law 387 = .ok (.iconst 1, 1) := by decide +kernel
theorem dL_law_388 : decode cL_law 388 = .ok (.iadd, 1) := by decide +kernel
theorem dL_law_389 : decode cL_law 389 = .ok (.iaload, 1) := by decide +kernel
theorem dL_law_390 : decode cL_law 390 = .ok (.aload_n 0, 1) := by decide +kernel
theorem dL_law_391 : decode cL_law 391 = .ok (.iload_n 3, 1) := by decide +kernel
theorem dL_law_392 : decode cL_law 392 = .ok (.iconst 2, 1) := by decide +kernel
theorem dL_law_393 : decode cL_law 393 = .ok (.iadd, 1) := by decide +kernel
theorem dL_law_394 : decode cL_law 394 = .ok (.iaload, 1) := by decide +kernel
theorem dL_law_395 : decode cL_law 395 = .ok (.invokevirtual 37, 3) := by decide +kernel
theorem dL_law_398 : decode cL_law 398 = .ok (.if_icmp .eq 972, 3) := by decide +kernel
theorem dL_law_401 : decode cL_law 401 = .ok (.iconst 0, 1) := by decide +kernel
theorem dL_law_402 : decode cL_law 402 = .ok (.ireturn, 1) := by decide +kernel
theorem dL_law_403 : decode cL_law 403 = .ok (.aload_n 1, 1) := by decide +kernel
theorem dL_law_404 : decode cL_law 404 = .ok (.aload_n 0, 1) := by decide +kernel
theorem dL_law_405 : decode cL_law 405 = .ok (.iload_n 3, 1) := by decide +kernel
theorem dL_law_406 : decode cL_law 406 = .ok (.iconst 1, 1) := by decide +kernel
theorem dL_law_407 : decode cL_law 407 = .ok (.iadd, 1) := by decide +kernel
theorem dL_law_408 : decode cL_law 408 = .ok (.iaload, 1) := by decide +kernel
theorem dL_law_409 : decode cL_law 409 = .ok (.aload_n 0, 1) := by decide +kernel
theorem dL_law_410 : decode cL_law 410 = .ok (.iload_n 3, 1) := by decide +kernel
theorem dL_law_411 : decode cL_law 411 = .ok (.iconst 2, 1) := by decide +kernel
theorem dL_law_412 : decode cL_law 412 = .ok (.iadd, 1) := by decide +kernel
theorem dL_law_413 : decode cL_law 413 = .ok (.iaload, 1) := by decide +kernel
theorem dL_law_414 : decode cL_law 414 = .ok (.invokevirtual 38, 3) := by decide +kernel
theorem dL_law_417 : decode cL_law 417 = .ok (.aload_n 2, 1) := by decide +kernel
theorem dL_law_418 : decode cL_law 418 = .ok (.aload_n 0, 1) := by decide +kernel
theorem dL_law_419 : decode cL_law 419 = .ok (.iload_n 3, 1) := by decide +kernel
theorem dL_law_420 : decode cL_law 420 = .ok (.iconst 1, 1) := by decide +kernel
theorem dL_law_421 : decode cL_law 421 = .ok (.iadd, 1) := by decide +kernel
theorem dL_law_422 : decode cL_law 422 = .ok (.iaload, 1) := by decide +kernel
theorem dL_law_423 : decode cL_law 423 = .ok (.aload_n 0, 1) := by decide +kernel
theorem dL_law_424 : decode cL_law 424 = .ok (.iload_n 3, 1) := by decide +kernel
theorem dL_law_425 : decode cL_law 425 = .ok (.iconst 2, 1) := by decide +kernel
theorem dL_law_426 : decode cL_law 426 = .ok (.iadd, 1) := by decide +kernel
theorem dL_law_427 : decode cL_law 427 = .ok (.iaload, 1) := by decide +kernel
theorem dL_law_428 : decode cL_law 428 = .ok (.invokevirtual 42, 3) := by decide +kernel
theorem dL_law_431 : decode cL_law 431 = .ok (.lcmp, 1) := by decide +kernel
theorem dL_law_432 : decode cL_law 432 = .ok (.ifCond .eq 938, 3) := by decide +kernel
theorem dL_law_435 : decode cL_law 435 = .ok (.iconst 0, 1) := by decide +kernel
theorem dL_law_436 : decode cL_law 436 = .ok (.ireturn, 1) := by decide +kernel
theorem dL_law_437 : decode cL_law 437 = .ok (.aload_n 1, 1) := by decide +kernel
theorem dL_law_438 : decode cL_law 438 = .ok (.aload_n 0, 1) := by decide +kernel
theorem dL_law_439 : decode cL_law 439 = .ok (.iload_n 3, 1) := by decide +kernel
theorem dL_law_440 : decode cL_law 440 = .ok (.iconst 1, 1) := by decide +kernel
theorem dL_law_441 : decode cL_law 441 = .ok (.iadd, 1) := by decide +kernel
theorem dL_law_442 : decode cL_law 442 = .ok (.iaload, 1) := by decide +kernel
theorem dL_law_443 : decode cL_law 443 = .ok (.aload_n 0, 1) := by decide +kernel
theorem dL_law_444 : decode cL_law 444 = .ok (.iload_n 3, 1) := by decide +kernel
theorem dL_law_445 : decode cL_law 445 = .ok (.iconst 2, 1) := by decide +kernel
theorem dL_law_446 : decode cL_law 446 = .ok (.iadd, 1) := by decide +kernel
theorem dL_law_447 : decode cL_law 447 = .ok (.iaload, 1) := by decide +kernel
theorem dL_law_448 : decode cL_law 448 = .ok (.aload_n 0, 1) := by decide +kernel
theorem dL_law_449 : decode cL_law 449 = .ok (.iload_n 3, 1) := by decide +kernel
theorem dL_law_450 : decode cL_law 450 = .ok (.iconst 3, 1) := by decide +kernel
theorem dL_law_451 : decode cL_law 451 = .ok (.iadd, 1) := by decide +kernel
theorem dL_law_452 : decode cL_law 452 = .ok (.iaload, 1) := by decide +kernel
theorem dL_law_453 : decode cL_law 453 = .ok (.invokevirtual 43, 3) := by decide +kernel
theorem dL_law_456 : decode cL_law 456 = .ok (.aload_n 2, 1) := by decide +kernel
theorem dL_law_457 : decode cL_law 457 = .ok (.aload_n 0, 1) := by decide +kernel
theorem dL_law_458 : decode cL_law 458 = .ok (.iload_n 3, 1) := by decide +kernel
theorem dL_law_459 : decode cL_law 459 = .ok (.iconst 1, 1) := by decide +kernel
theorem dL_law_460 : decode cL_law 460 = .ok (.iadd, 1) := by decide +kernel
theorem dL_law_461 : decode cL_law 461 = .ok (.iaload, 1) := by decide +kernel
theorem dL_law_462 : decode cL_law 462 = .ok (.aload_n 0, 1) := by decide +kernel
theorem dL_law_463 : decode cL_law 463 = .ok (.iload_n 3, 1) := by decide +kernel
theorem dL_law_464 : decode cL_law 464 = .ok (.iconst 2, 1) := by decide +kernel
theorem dL_law_465 : decode cL_law 465 = .ok (.iadd, 1) := by decide +kernel
theorem dL_law_466 : decode cL_law 466 = .ok (.iaload, 1) := by decide +kernel
theorem dL_law_467 : decode cL_law 467 = .ok (.aload_n 0, 1) := by decide +kernel
theorem dL_law_468 : decode cL_law 468 = .ok (.iload_n 3, 1) := by decide +kernel
theorem dL_law_469 : decode cL_law 469 = .ok (.iconst 3, 1) := by decide +kernel
theorem dL_law_470 : decode cL_law 470 = .ok (.iadd, 1) := by decide +kernel
theorem dL_law_471 : decode cL_law 471 = .ok (.iaload, 1) := by decide +kernel
theorem dL_law_472 : decode cL_law 472 = .ok (.invokevirtual 46, 3) := by decide +kernel
theorem dL_law_475 : decode cL_law 475 = .ok (.if_icmp .eq 895, 3) := by decide +kernel
theorem dL_law_478 : decode cL_law 478 = .ok (.iconst 0, 1) := by decide +kernel
theorem dL_law_479 : decode cL_law 479 = .ok (.ireturn, 1) := by decide +kernel
theorem dL_law_480 : decode cL_law 480 = .ok (.aload_n 1, 1) := by decide +kernel
theorem dL_law_481 : decode cL_law 481 = .ok (.aload_n 0, 1) := by decide +kernel
theorem dL_law_482 : decode cL_law 482 = .ok (.iload_n 3, 1) := by decide +kernel
theorem dL_law_483 : decode cL_law 483 = .ok (.iconst 1, 1) := by decide +kernel
theorem dL_law_484 : decode cL_law 484 = .ok (.iadd, 1) := by decide +kernel
theorem dL_law_485 : decode cL_law 485 = .ok (.iaload, 1) := by decide +kernel
theorem dL_law_486 : decode cL_law 486 = .ok (.aload_n 0, 1) := by decide +kernel
theorem dL_law_487 : decode cL_law 487 = .ok (.iload_n 3, 1) := by decide +kernel
theorem dL_law_488 : decode cL_law 488 = .ok (.iconst 2, 1) := by decide +kernel
theorem dL_law_489 : decode cL_law 489 = .ok (.iadd, 1) := by decide +kernel
theorem dL_law_490 : decode cL_law 490 = .ok (.iaload, 1) := by decide +kernel
theorem dL_law_491 : decode cL_law 491 = .ok (.invokevirtual 47, 3) := by decide +kernel
theorem dL_law_494 : decode cL_law 494 = .ok (.aload_n 2, 1) := by decide +kernel
theorem dL_law_495 : decode cL_law 495 = .ok (.aload_n 0, 1) := by decide +kernel
theorem dL_law_496 : decode cL_law 496 = .ok (.iload_n 3, 1) := by decide +kernel
theorem dL_law_497 : decode cL_law 497 = .ok (.iconst 1, 1) := by decide +kernel
theorem dL_law_498 : decode cL_law 498 = .ok (.iadd, 1) := by decide +kernel
theorem dL_law_499 : decode cL_law 499 = .ok (.iaload, 1) := by decide +kernel
theorem dL_law_500 : decode cL_law 500 = .ok (.aload_n 0, 1) := by decide +kernel
theorem dL_law_501 : decode cL_law 501 = .ok (.iload_n 3, 1) := by decide +kernel
theorem dL_law_502 : decode cL_law 502 = .ok (.iconst 2, 1) := by decide +kernel
theorem dL_law_503 : decode cL_law 503 = .ok (.iadd, 1) := by decide +kernel
theorem dL_law_504 : decode cL_law 504 = .ok (.iaload, 1) := by decide +kernel
theorem dL_law_505 : decode cL_law 505 = .ok (.invokevirtual 50, 3) := by decide +kernel
theorem dL_law_508 : decode cL_law 508 = .ok (.if_icmp .eq 862, 3) := by decide +kernel
theorem dL_law_511 : decode cL_law 511 = .ok (.iconst 0, 1) := by decide +kernel
theorem dL_law_512 : decode cL_law 512 = .ok (.ireturn, 1) := by decide +kernel
theorem dL_law_513 : decode cL_law 513 = .ok (.aload_n 1, 1) := by decide +kernel
theorem dL_law_514 : decode cL_law 514 = .ok (.aload_n 0, 1) := by decide +kernel
theorem dL_law_515 : decode cL_law 515 = .ok (.iload_n 3, 1) := by decide +kernel
theorem dL_law_516 : decode cL_law 516 = .ok (.iconst 1, 1) := by decide +kernel
theorem dL_law_517 : decode cL_law 517 = .ok (.iadd, 1) := by decide +kernel
theorem dL_law_518 : decode cL_law 518 = .ok (.iaload, 1) := by decide +kernel
theorem dL_law_519 : decode cL_law 519 = .ok (.aload_n 0, 1) := by decide +kernel
theorem dL_law_520 : decode cL_law 520 = .ok (.iload_n 3, 1) := by decide +kernel
theorem dL_law_521 : decode cL_law 521 = .ok (.iconst 2, 1) := by decide +kernel
theorem dL_law_522 : decode cL_law 522 = .ok (.iadd, 1) := by decide +kernel
theorem dL_law_523 : decode cL_law 523 = .ok (.iaload, 1) := by decide +kernel
theorem dL_law_524 : decode cL_law 524 = .ok (.ifCond .eq 7, 3) := by decide +kernel
theorem dL_law_527 : decode cL_law 527 = .ok (.iconst 1, 1) := by decide +kernel
theorem dL_law_528 : decode cL_law 528 = .ok (.goto 4, 3) := by decide +kernel
theorem dL_law_531 : decode cL_law 531 = .ok (.iconst 0, 1) := by decide +kernel
theorem dL_law_532 : decode cL_law 532 = .ok (.invokevirtual 51, 3) := by decide +kernel
theorem dL_law_535 : decode cL_law 535 = .ok (.aload_n 2, 1) := by decide +kernel
theorem dL_law_536 : decode cL_law 536 = .ok (.aload_n 0, 1) := by decide +kernel
theorem dL_law_537 : decode cL_law 537 = .ok (.iload_n 3, 1) := by decide +kernel
theorem dL_law_538 : decode cL_law 538 = .ok (.iconst 1, 1) := by decide +kernel
theorem dL_law_539 : decode cL_law 539 = .ok (.iadd, 1) := by decide +kernel
theorem dL_law_540 : decode cL_law 540 = .ok (.iaload, 1) := by decide +kernel
theorem dL_law_541 : decode cL_law 541 = .ok (.aload_n 0, 1) := by decide +kernel
theorem dL_law_542 : decode cL_law 542 = .ok (.iload_n 3, 1) := by decide +kernel
theorem dL_law_543 : decode cL_law 543 = .ok (.iconst 2, 1) := by decide +kernel
theorem dL_law_544 : decode cL_law 544 = .ok (.iadd, 1) := by decide +kernel
theorem dL_law_545 : decode cL_law 545 = .ok (.iaload, 1) := by decide +kernel
theorem dL_law_546 : decode cL_law 546 = .ok (.ifCond .eq 7, 3) := by decide +kernel
theorem dL_law_549 : decode cL_law 549 = .ok (.iconst 1, 1) := by decide +kernel
theorem dL_law_550 : decode cL_law 550 = .ok (.goto 4, 3) := by decide +kernel
theorem dL_law_553 : decode cL_law 553 = .ok (.iconst 0, 1) := by decide +kernel
theorem dL_law_554 : decode cL_law 554 = .ok (.invokevirtual 55, 3) := by decide +kernel
theorem dL_law_557 : decode cL_law 557 = .ok (.if_icmp .eq 813, 3) := by decide +kernel
theorem dL_law_560 : decode cL_law 560 = .ok (.iconst 0, 1) := by decide +kernel
theorem dL_law_561 : decode cL_law 561 = .ok (.ireturn, 1) := by decide +kernel
theorem dL_law_562 : decode cL_law 562 = .ok (.aload_n 1, 1) := by decide +kernel
theorem dL_law_563 : decode cL_law 563 = .ok (.aload_n 0, 1) := by decide +kernel
theorem dL_law_564 : decode cL_law 564 = .ok (.iload_n 3, 1) := by decide +kernel
theorem dL_law_565 : decode cL_law 565 = .ok (.iconst 1, 1) := by decide +kernel
theorem dL_law_566 : decode cL_law 566 = .ok (.iadd, 1) := by decide +kernel
theorem dL_law_567 : decode cL_law 567 = .ok (.iaload, 1) := by decide +kernel
theorem dL_law_568 : decode cL_law 568 = .ok (.aload_n 0, 1) := by decide +kernel
theorem dL_law_569 : decode cL_law 569 = .ok (.iload_n 3, 1) := by decide +kernel
theorem dL_law_570 : decode cL_law 570 = .ok (.iconst 2, 1) := by decide +kernel
theorem dL_law_571 : decode cL_law 571 = .ok (.iadd, 1) := by decide +kernel
theorem dL_law_572 : decode cL_law 572 = .ok (.iaload, 1) := by decide +kernel
theorem dL_law_573 : decode cL_law 573 = .ok (.invokevirtual 56, 3) := by decide +kernel
theorem dL_law_576 : decode cL_law 576 = .ok (.aload_n 2, 1) := by decide +kernel
theorem dL_law_577 : decode cL_law 577 = .ok (.aload_n 0, 1) := by decide +kernel
theorem dL_law_578 : decode cL_law 578 = .ok (.iload_n 3, 1) := by decide +kernel
theorem dL_law_579 : decode cL_law 579 = .ok (.iconst 1, 1) := by decide +kernel
theorem dL_law_580 : decode cL_law 580 = .ok (.iadd, 1) := by decide +kernel
theorem dL_law_581 : decode cL_law 581 = .ok (.iaload, 1) := by decide +kernel
theorem dL_law_582 : decode cL_law 582 = .ok (.aload_n 0, 1) := by decide +kernel
theorem dL_law_583 : decode cL_law 583 = .ok (.iload_n 3, 1) := by decide +kernel
theorem dL_law_584 : decode cL_law 584 = .ok (.iconst 2, 1) := by decide +kernel
theorem dL_law_585 : decode cL_law 585 = .ok (.iadd, 1) := by decide +kernel
theorem dL_law_586 : decode cL_law 586 = .ok (.iaload, 1) := by decide +kernel
theorem dL_law_587 : decode cL_law 587 = .ok (.invokevirtual 59, 3) := by decide +kernel
theorem dL_law_590 : decode cL_law 590 = .ok (.if_icmp .eq 780, 3) := by decide +kernel
theorem dL_law_593 : decode cL_law 593 = .ok (.iconst 0, 1) := by decide +kernel
theorem dL_law_594 : decode cL_law 594 = .ok (.ireturn, 1) := by decide +kernel
theorem dL_law_595 : decode cL_law 595 = .ok (.aload_n 1, 1) := by decide +kernel
theorem dL_law_596 : decode cL_law 596 = .ok (.aload_n 0, 1) := by decide +kernel
theorem dL_law_597 : decode cL_law 597 = .ok (.iload_n 3, 1) := by decide +kernel
theorem dL_law_598 : decode cL_law 598 = .ok (.iconst 1, 1) := by decide +kernel
theorem dL_law_599 : decode cL_law 599 = .ok (.iadd, 1) := by decide +kernel
theorem dL_law_600 : decode cL_law 600 = .ok (.iaload, 1) := by decide +kernel
theorem dL_law_601 : decode cL_law 601 = .ok (.aload_n 0, 1) := by decide +kernel
theorem dL_law_602 : decode cL_law 602 = .ok (.iload_n 3, 1) := by decide +kernel
theorem dL_law_603 : decode cL_law 603 = .ok (.iconst 2, 1) := by decide +kernel
theorem dL_law_604 : decode cL_law 604 = .ok (.iadd, 1) := by decide +kernel
theorem dL_law_605 : decode cL_law 605 = .ok (.iaload, 1) := by decide +kernel
theorem dL_law_606 : decode cL_law 606 = .ok (.aload_n 0, 1) := by decide +kernel
theorem dL_law_607 : decode cL_law 607 = .ok (.iload_n 3, 1) := by decide +kernel
theorem dL_law_608 : decode cL_law 608 = .ok (.iconst 3, 1) := by decide +kernel
theorem dL_law_609 : decode cL_law 609 = .ok (.iadd, 1) := by decide +kernel
theorem dL_law_610 : decode cL_law 610 = .ok (.iaload, 1) := by decide +kernel
theorem dL_law_611 : decode cL_law 611 = .ok (.aload_n 0, 1) := by decide +kernel
theorem dL_law_612 : decode cL_law 612 = .ok (.iload_n 3, 1) := by decide +kernel
theorem dL_law_613 : decode cL_law 613 = .ok (.iconst 4, 1) := by decide +kernel
theorem dL_law_614 : decode cL_law 614 = .ok (.iadd, 1) := by decide +kernel
theorem dL_law_615 : decode cL_law 615 = .ok (.iaload, 1) := by decide +kernel
theorem dL_law_616 : decode cL_law 616 = .ok (.aload_n 0, 1) := by decide +kernel
theorem dL_law_617 : decode cL_law 617 = .ok (.iload_n 3, 1) := by decide +kernel
theorem dL_law_618 : decode cL_law 618 = .ok (.iconst 5, 1) := by decide +kernel
theorem dL_law_619 : decode cL_law 619 = .ok (.iadd, 1) := by decide +kernel
theorem dL_law_620 : decode cL_law 620 = .ok (.iaload, 1) := by decide +kernel
theorem dL_law_621 : decode cL_law 621 = .ok (.i2l, 1) := by decide +kernel
theorem dL_law_622 : decode cL_law 622 = .ok (.bipush 32, 2) := by decide +kernel
theorem dL_law_624 : decode cL_law 624 = .ok (.lshl, 1) := by decide +kernel
theorem dL_law_625 : decode cL_law 625 = .ok (.aload_n 0, 1) := by decide +kernel
theorem dL_law_626 : decode cL_law 626 = .ok (.iload_n 3, 1) := by decide +kernel
theorem dL_law_627 : decode cL_law 627 = .ok (.bipush 6, 2) := by decide +kernel
theorem dL_law_629 : decode cL_law 629 = .ok (.iadd, 1) := by decide +kernel
theorem dL_law_630 : decode cL_law 630 = .ok (.iaload, 1) := by decide +kernel
theorem dL_law_631 : decode cL_law 631 = .ok (.i2l, 1) := by decide +kernel
theorem dL_law_632 : decode cL_law 632 = .ok (.ldc2_w 23, 3) := by decide +kernel
theorem dL_law_635 : decode cL_law 635 = .ok (.land, 1) := by decide +kernel
theorem dL_law_636 : decode cL_law 636 = .ok (.lor, 1) := by decide +kernel
theorem dL_law_637 : decode cL_law 637 = .ok (.aload_n 0, 1) := by decide +kernel
theorem dL_law_638 : decode cL_law 638 = .ok (.iload_n 3, 1) := by decide +kernel
theorem dL_law_639 : decode cL_law 639 = .ok (.bipush 7, 2) := by decide +kernel
theorem dL_law_641 : decode cL_law 641 = .ok (.iadd, 1) := by decide +kernel
theorem dL_law_642 : decode cL_law 642 = .ok (.iaload, 1) := by decide +kernel
theorem dL_law_643 : decode cL_law 643 = .ok (.i2l, 1) := by decide +kernel
theorem dL_law_644 : decode cL_law 644 = .ok (.bipush 32, 2) := by decide +kernel
theorem dL_law_646 : decode cL_law 646 = .ok (.lshl, 1) := by decide +kernel
theorem dL_law_647 : decode cL_law 647 = .ok (.aload_n 0, 1) := by decide +kernel
theorem dL_law_648 : decode cL_law 648 = .ok (.iload_n 3, 1) := by decide +kernel
theorem dL_law_649 : decode cL_law 649 = .ok (.bipush 8, 2) := by decide +kernel
theorem dL_law_651 : decode cL_law 651 = .ok (.iadd, 1) := by decide +kernel
theorem dL_law_652 : decode cL_law 652 = .ok (.iaload, 1) := by decide +kernel
theorem dL_law_653 : decode cL_law 653 = .ok (.i2l, 1) := by decide +kernel
theorem dL_law_654 : decode cL_law 654 = .ok (.ldc2_w 23, 3) := by decide +kernel
theorem dL_law_657 : decode cL_law 657 = .ok (.land, 1) := by decide +kernel
theorem dL_law_658 : decode cL_law 658 = .ok (.lor, 1) := by decide +kernel
theorem dL_law_659 : decode cL_law 659 = .ok (.invokevirtual 60, 3) := by decide +kernel
theorem dL_law_662 : decode cL_law 662 = .ok (.aload_n 2, 1) := by decide +kernel
theorem dL_law_663 : decode cL_law 663 = .ok (.aload_n 0, 1) := by decide +kernel
theorem dL_law_664 : decode cL_law 664 = .ok (.iload_n 3, 1) := by decide +kernel
theorem dL_law_665 : decode cL_law 665 = .ok (.iconst 1, 1) := by decide +kernel
theorem dL_law_666 : decode cL_law 666 = .ok (.iadd, 1) := by decide +kernel
theorem dL_law_667 : decode cL_law 667 = .ok (.iaload, 1) := by decide +kernel
theorem dL_law_668 : decode cL_law 668 = .ok (.aload_n 0, 1) := by decide +kernel
theorem dL_law_669 : decode cL_law 669 = .ok (.iload_n 3, 1) := by decide +kernel
theorem dL_law_670 : decode cL_law 670 = .ok (.iconst 2, 1) := by decide +kernel
theorem dL_law_671 : decode cL_law 671 = .ok (.iadd, 1) := by decide +kernel
theorem dL_law_672 : decode cL_law 672 = .ok (.iaload, 1) := by decide +kernel
theorem dL_law_673 : decode cL_law 673 = .ok (.aload_n 0, 1) := by decide +kernel
theorem dL_law_674 : decode cL_law 674 = .ok (.iload_n 3, 1) := by decide +kernel
theorem dL_law_675 : decode cL_law 675 = .ok (.iconst 3, 1) := by decide +kernel
theorem dL_law_676 : decode cL_law 676 = .ok (.iadd, 1) := by decide +kernel
theorem dL_law_677 : decode cL_law 677 = .ok (.iaload, 1) := by decide +kernel
theorem dL_law_678 : decode cL_law 678 = .ok (.aload_n 0, 1) := by decide +kernel
theorem dL_law_679 : decode cL_law 679 = .ok (.iload_n 3, 1) := by decide +kernel
theorem dL_law_680 : decode cL_law 680 = .ok (.iconst 4, 1) := by decide +kernel
theorem dL_law_681 : decode cL_law 681 = .ok (.iadd, 1) := by decide +kernel
theorem dL_law_682 : decode cL_law 682 = .ok (.iaload, 1) := by decide +kernel
theorem dL_law_683 : decode cL_law 683 = .ok (.aload_n 0, 1) := by decide +kernel
theorem dL_law_684 : decode cL_law 684 = .ok (.iload_n 3, 1) := by decide +kernel
theorem dL_law_685 : decode cL_law 685 = .ok (.iconst 5, 1) := by decide +kernel
theorem dL_law_686 : decode cL_law 686 = .ok (.iadd, 1) := by decide +kernel
theorem dL_law_687 : decode cL_law 687 = .ok (.iaload, 1) := by decide +kernel
theorem dL_law_688 : decode cL_law 688 = .ok (.i2l, 1) := by decide +kernel
theorem dL_law_689 : decode cL_law 689 = .ok (.bipush 32, 2) := by decide +kernel
theorem dL_law_691 : decode cL_law 691 = .ok (.lshl, 1) := by decide +kernel
theorem dL_law_692 : decode cL_law 692 = .ok (.aload_n 0, 1) := by decide +kernel
theorem dL_law_693 : decode cL_law 693 = .ok (.iload_n 3, 1) := by decide +kernel
theorem dL_law_694 : decode cL_law 694 = .ok (.bipush 6, 2) := by decide +kernel
theorem dL_law_696 : decode cL_law 696 = .ok (.iadd, 1) := by decide +kernel
theorem dL_law_697 : decode cL_law 697 = .ok (.iaload, 1) := by decide +kernel
theorem dL_law_698 : decode cL_law 698 = .ok (.i2l, 1) := by decide +kernel
theorem dL_law_699 : decode cL_law 699 = .ok (.ldc2_w 23, 3) := by decide +kernel
theorem dL_law_702 : decode cL_law 702 = .ok (.land, 1) := by decide +kernel
theorem dL_law_703 : decode cL_law 703 = .ok (.lor, 1) := by decide +kernel
theorem dL_law_704 : decode cL_law 704 = .ok (.aload_n 0, 1) := by decide +kernel
theorem dL_law_705 : decode cL_law 705 = .ok (.iload_n 3, 1) := by decide +kernel
theorem dL_law_706 : decode cL_law 706 = .ok (.bipush 7, 2) := by decide +kernel
theorem dL_law_708 : decode cL_law 708 = .ok (.iadd, 1) := by decide +kernel
theorem dL_law_709 : decode cL_law 709 = .ok (.iaload, 1) := by decide +kernel
theorem dL_law_710 : decode cL_law 710 = .ok (.i2l, 1) := by decide +kernel
theorem dL_law_711 : decode cL_law 711 = .ok (.bipush 32, 2) := by decide +kernel
theorem dL_law_713 : decode cL_law 713 = .ok (.lshl, 1) := by decide +kernel
theorem dL_law_714 : decode cL_law 714 = .ok (.aload_n 0, 1) := by decide +kernel
theorem dL_law_715 : decode cL_law 715 = .ok (.iload_n 3, 1) := by decide +kernel
theorem dL_law_716 : decode cL_law 716 = .ok (.bipush 8, 2) := by decide +kernel
theorem dL_law_718 : decode cL_law 718 = .ok (.iadd, 1) := by decide +kernel
theorem dL_law_719 : decode cL_law 719 = .ok (.iaload, 1) := by decide +kernel
theorem dL_law_720 : decode cL_law 720 = .ok (.i2l, 1) := by decide +kernel
theorem dL_law_721 : decode cL_law 721 = .ok (.ldc2_w 23, 3) := by decide +kernel
theorem dL_law_724 : decode cL_law 724 = .ok (.land, 1) := by decide +kernel
theorem dL_law_725 : decode cL_law 725 = .ok (.lor, 1) := by decide +kernel
theorem dL_law_726 : decode cL_law 726 = .ok (.invokevirtual 64, 3) := by decide +kernel
theorem dL_law_729 : decode cL_law 729 = .ok (.if_icmp .eq 641, 3) := by decide +kernel
theorem dL_law_732 : decode cL_law 732 = .ok (.iconst 0, 1) := by decide +kernel
theorem dL_law_733 : decode cL_law 733 = .ok (.ireturn, 1) := by decide +kernel
theorem dL_law_734 : decode cL_law 734 = .ok (.aload_n 1, 1) := by decide +kernel
theorem dL_law_735 : decode cL_law 735 = .ok (.aload_n 0, 1) := by decide +kernel
theorem dL_law_736 : decode cL_law 736 = .ok (.iload_n 3, 1) := by decide +kernel
theorem dL_law_737 : decode cL_law 737 = .ok (.iconst 1, 1) := by decide +kernel
theorem dL_law_738 : decode cL_law 738 = .ok (.iadd, 1) := by decide +kernel
theorem dL_law_739 : decode cL_law 739 = .ok (.iaload, 1) := by decide +kernel
theorem dL_law_740 : decode cL_law 740 = .ok (.aload_n 0, 1) := by decide +kernel
theorem dL_law_741 : decode cL_law 741 = .ok (.iload_n 3, 1) := by decide +kernel
theorem dL_law_742 : decode cL_law 742 = .ok (.iconst 2, 1) := by decide +kernel
theorem dL_law_743 : decode cL_law 743 = .ok (.iadd, 1) := by decide +kernel
theorem dL_law_744 : decode cL_law 744 = .ok (.iaload, 1) := by decide +kernel
theorem dL_law_745 : decode cL_law 745 = .ok (.aload_n 0, 1) := by decide +kernel
theorem dL_law_746 : decode cL_law 746 = .ok (.iload_n 3, 1) := by decide +kernel
theorem dL_law_747 : decode cL_law 747 = .ok (.iconst 3, 1) := by decide +kernel
theorem dL_law_748 : decode cL_law 748 = .ok (.iadd, 1) := by decide +kernel
theorem dL_law_749 : decode cL_law 749 = .ok (.iaload, 1) := by decide +kernel
theorem dL_law_750 : decode cL_law 750 = .ok (.aload_n 0, 1) := by decide +kernel
theorem dL_law_751 : decode cL_law 751 = .ok (.iload_n 3, 1) := by decide +kernel
theorem dL_law_752 : decode cL_law 752 = .ok (.iconst 4, 1) := by decide +kernel
theorem dL_law_753 : decode cL_law 753 = .ok (.iadd, 1) := by decide +kernel
theorem dL_law_754 : decode cL_law 754 = .ok (.iaload, 1) := by decide +kernel
theorem dL_law_755 : decode cL_law 755 = .ok (.invokevirtual 65, 3) := by decide +kernel
theorem dL_law_758 : decode cL_law 758 = .ok (.aload_n 2, 1) := by decide +kernel
theorem dL_law_759 : decode cL_law 759 = .ok (.aload_n 0, 1) := by decide +kernel
theorem dL_law_760 : decode cL_law 760 = .ok (.iload_n 3, 1) := by decide +kernel
theorem dL_law_761 : decode cL_law 761 = .ok (.iconst 1, 1) := by decide +kernel
theorem dL_law_762 : decode cL_law 762 = .ok (.iadd, 1) := by decide +kernel
theorem dL_law_763 : decode cL_law 763 = .ok (.iaload, 1) := by decide +kernel
theorem dL_law_764 : decode cL_law 764 = .ok (.aload_n 0, 1) := by decide +kernel
theorem dL_law_765 : decode cL_law 765 = .ok (.iload_n 3, 1) := by decide +kernel
theorem dL_law_766 : decode cL_law 766 = .ok (.iconst 2, 1) := by decide +kernel
theorem dL_law_767 : decode cL_law 767 = .ok (.iadd, 1) := by decide +kernel
theorem dL_law_768 : decode cL_law 768 = .ok (.iaload, 1) := by decide +kernel
theorem dL_law_769 : decode cL_law 769 = .ok (.aload_n 0, 1) := by decide +kernel
theorem dL_law_770 : decode cL_law 770 = .ok (.iload_n 3, 1) := by decide +kernel
theorem dL_law_771 : decode cL_law 771 = .ok (.iconst 3, 1) := by decide +kernel
theorem dL_law_772 : decode cL_law 772 = .ok (.iadd, 1) := by decide +kernel
theorem dL_law_773 : decode cL_law 773 = .ok (.iaload, 1) := by decide +kernel
theorem dL_law_774 : decode cL_law 774 = .ok (.aload_n 0, 1) := by decide +kernel
theorem dL_law_775 : decode cL_law 775 = .ok (.iload_n 3, 1) := by decide +kernel
theorem dL_law_776 : decode cL_law 776 = .ok (.iconst 4, 1) := by decide +kernel
theorem dL_law_777 : decode cL_law 777 = .ok (.iadd, 1) := by decide +kernel
theorem dL_law_778 : decode cL_law 778 = .ok (.iaload, 1) := by decide +kernel
theorem dL_law_779 : decode cL_law 779 = .ok (.invokevirtual 69, 3) := by decide +kernel
theorem dL_law_782 : decode cL_law 782 = .ok (.if_icmp .eq 588, 3) := by decide +kernel
theorem dL_law_785 : decode cL_law 785 = .ok (.iconst 0, 1) := by decide +kernel
theorem dL_law_786 : decode cL_law 786 = .ok (.ireturn, 1) := by decide +kernel
theorem dL_law_787 : decode cL_law 787 = .ok (.aload_n 1, 1) := by decide +kernel
theorem dL_law_788 : decode cL_law 788 = .ok (.aload_n 0, 1) := by decide +kernel
theorem dL_law_789 : decode cL_law 789 = .ok (.iload_n 3, 1) := by decide +kernel
theorem dL_law_790 : decode cL_law 790 = .ok (.iconst 1, 1) := by decide +kernel
theorem dL_law_791 : decode cL_law 791 = .ok (.iadd, 1) := by decide +kernel
theorem dL_law_792 : decode cL_law 792 = .ok (.iaload, 1) := by decide +kernel
theorem dL_law_793 : decode cL_law 793 = .ok (.aload_n 0, 1) := by decide +kernel
theorem dL_law_794 : decode cL_law 794 = .ok (.iload_n 3, 1) := by decide +kernel
theorem dL_law_795 : decode cL_law 795 = .ok (.iconst 2, 1) := by decide +kernel
theorem dL_law_796 : decode cL_law 796 = .ok (.iadd, 1) := by decide +kernel
theorem dL_law_797 : decode cL_law 797 = .ok (.iaload, 1) := by decide +kernel
theorem dL_law_798 : decode cL_law 798 = .ok (.ifCond .eq 7, 3) := by decide +kernel
theorem dL_law_801 : decode cL_law 801 = .ok (.iconst 1, 1) := by decide +kernel
theorem dL_law_802 : decode cL_law 802 = .ok (.goto 4, 3) := by decide +kernel
theorem dL_law_805 : decode cL_law 805 = .ok (.iconst 0, 1) := by decide +kernel
theorem dL_law_806 : decode cL_law 806 = .ok (.invokevirtual 70, 3) := by decide +kernel
theorem dL_law_809 : decode cL_law 809 = .ok (.aload_n 2, 1) := by decide +kernel
theorem dL_law_810 : decode cL_law 810 = .ok (.aload_n 0, 1) := by decide +kernel
theorem dL_law_811 : decode cL_law 811 = .ok (.iload_n 3, 1) := by decide +kernel
theorem dL_law_812 : decode cL_law 812 = .ok (.iconst 1, 1) := by decide +kernel
theorem dL_law_813 : decode cL_law 813 = .ok (.iadd, 1) := by decide +kernel
theorem dL_law_814 : decode cL_law 814 = .ok (.iaload, 1) := by decide +kernel
theorem dL_law_815 : decode cL_law 815 = .ok (.aload_n 0, 1) := by decide +kernel
theorem dL_law_816 : decode cL_law 816 = .ok (.iload_n 3, 1) := by decide +kernel
theorem dL_law_817 : decode cL_law 817 = .ok (.iconst 2, 1) := by decide +kernel
theorem dL_law_818 : decode cL_law 818 = .ok (.iadd, 1) := by decide +kernel
theorem dL_law_819 : decode cL_law 819 = .ok (.iaload, 1) := by decide +kernel
theorem dL_law_820 : decode cL_law 820 = .ok (.ifCond .eq 7, 3) := by decide +kernel
theorem dL_law_823 : decode cL_law 823 = .ok (.iconst 1, 1) := by decide +kernel
theorem dL_law_824 : decode cL_law 824 = .ok (.goto 4, 3) := by decide +kernel
theorem dL_law_827 : decode cL_law 827 = .ok (.iconst 0, 1) := by decide +kernel
theorem dL_law_828 : decode cL_law 828 = .ok (.invokevirtual 73, 3) := by decide +kernel
theorem dL_law_831 : decode cL_law 831 = .ok (.if_icmp .eq 539, 3) := by decide +kernel
theorem dL_law_834 : decode cL_law 834 = .ok (.iconst 0, 1) := by decide +kernel
theorem dL_law_835 : decode cL_law 835 = .ok (.ireturn, 1) := by decide +kernel
theorem dL_law_836 : decode cL_law 836 = .ok (.aload_n 1, 1) := by decide +kernel
theorem dL_law_837 : decode cL_law 837 = .ok (.aload_n 0, 1) := by decide +kernel
theorem dL_law_838 : decode cL_law 838 = .ok (.iload_n 3, 1) := by decide +kernel
theorem dL_law_839 : decode cL_law 839 = .ok (.iconst 1, 1) := by decide +kernel
theorem dL_law_840 : decode cL_law 840 = .ok (.iadd, 1) := by decide +kernel
theorem dL_law_841 : decode cL_law 841 = .ok (.iaload, 1) := by decide +kernel
theorem dL_law_842 : decode cL_law 842 = .ok (.invokevirtual 74, 3) := by decide +kernel
theorem dL_law_845 : decode cL_law 845 = .ok (.aload_n 2, 1) := by decide +kernel
theorem dL_law_846 : decode cL_law 846 = .ok (.aload_n 0, 1) := by decide +kernel
theorem dL_law_847 : decode cL_law 847 = .ok (.iload_n 3, 1) := by decide +kernel
theorem dL_law_848 : decode cL_law 848 = .ok (.iconst 1, 1) := by decide +kernel
theorem dL_law_849 : decode cL_law 849 = .ok (.iadd, 1) := by decide +kernel
theorem dL_law_850 : decode cL_law 850 = .ok (.iaload, 1) := by decide +kernel
theorem dL_law_851 : decode cL_law 851 = .ok (.invokevirtual 78, 3) := by decide +kernel
theorem dL_law_854 : decode cL_law 854 = .ok (.lcmp, 1) := by decide +kernel
theorem dL_law_855 : decode cL_law 855 = .ok (.ifCond .eq 515, 3) := by decide +kernel
theorem dL_law_858 : decode cL_law 858 = .ok (.iconst 0, 1) := by decide +kernel
theorem dL_law_859 : decode cL_law 859 = .ok (.ireturn, 1) := by decide +kernel
theorem dL_law_860 : decode cL_law 860 = .ok (.aload_n 1, 1) := by decide +kernel
theorem dL_law_861 : decode cL_law 861 = .ok (.aload_n 0, 1) := by decide +kernel
theorem dL_law_862 : decode cL_law 862 = .ok (.iload_n 3, 1) := by decide +kernel
theorem dL_law_863 : decode cL_law 863 = .ok (.iconst 1, 1) := by decide +kernel
theorem dL_law_864 : decode cL_law 864 = .ok (.iadd, 1) := by decide +kernel
theorem dL_law_865 : decode cL_law 865 = .ok (.iaload, 1) := by decide +kernel
theorem dL_law_866 : decode cL_law 866 = .ok (.invokevirtual 79, 3) := by decide +kernel
theorem dL_law_869 : decode cL_law 869 = .ok (.aload_n 2, 1) := by decide +kernel
theorem dL_law_870 : decode cL_law 870 = .ok (.aload_n 0, 1) := by decide +kernel
theorem dL_law_871 : decode cL_law 871 = .ok (.iload_n 3, 1) := by decide +kernel
theorem dL_law_872 : decode cL_law 872 = .ok (.iconst 1, 1) := by decide +kernel
theorem dL_law_873 : decode cL_law 873 = .ok (.iadd, 1) := by decide +kernel
theorem dL_law_874 : decode cL_law 874 = .ok (.iaload, 1) := by decide +kernel
theorem dL_law_875 : decode cL_law 875 = .ok (.invokevirtual 83, 3) := by decide +kernel
theorem dL_law_878 : decode cL_law 878 = .ok (.if_icmp .eq 492, 3) := by decide +kernel
theorem dL_law_881 : decode cL_law 881 = .ok (.iconst 0, 1) := by decide +kernel
theorem dL_law_882 : decode cL_law 882 = .ok (.ireturn, 1) := by decide +kernel
theorem dL_law_883 : decode cL_law 883 = .ok (.aload_n 1, 1) := by decide +kernel
theorem dL_law_884 : decode cL_law 884 = .ok (.aload_n 0, 1) := by decide +kernel
theorem dL_law_885 : decode cL_law 885 = .ok (.iload_n 3, 1) := by decide +kernel
theorem dL_law_886 : decode cL_law 886 = .ok (.iconst 1, 1) := by decide +kernel
theorem dL_law_887 : decode cL_law 887 = .ok (.iadd, 1) := by decide +kernel
theorem dL_law_888 : decode cL_law 888 = .ok (.iaload, 1) := by decide +kernel
theorem dL_law_889 : decode cL_law 889 = .ok (.aload_n 0, 1) := by decide +kernel
theorem dL_law_890 : decode cL_law 890 = .ok (.iload_n 3, 1) := by decide +kernel
theorem dL_law_891 : decode cL_law 891 = .ok (.iconst 2, 1) := by decide +kernel
theorem dL_law_892 : decode cL_law 892 = .ok (.iadd, 1) := by decide +kernel
theorem dL_law_893 : decode cL_law 893 = .ok (.iaload, 1) := by decide +kernel
theorem dL_law_894 : decode cL_law 894 = .ok (.invokevirtual 84, 3) := by decide +kernel
theorem dL_law_897 : decode cL_law 897 = .ok (.aload_n 2, 1) := by decide +kernel
theorem dL_law_898 : decode cL_law 898 = .ok (.aload_n 0, 1) := by decide +kernel
theorem dL_law_899 : decode cL_law 899 = .ok (.iload_n 3, 1) := by decide +kernel
theorem dL_law_900 : decode cL_law 900 = .ok (.iconst 1, 1) := by decide +kernel
theorem dL_law_901 : decode cL_law 901 = .ok (.iadd, 1) := by decide +kernel
theorem dL_law_902 : decode cL_law 902 = .ok (.iaload, 1) := by decide +kernel
theorem dL_law_903 : decode cL_law 903 = .ok (.aload_n 0, 1) := by decide +kernel
theorem dL_law_904 : decode cL_law 904 = .ok (.iload_n 3, 1) := by decide +kernel
theorem dL_law_905 : decode cL_law 905 = .ok (.iconst 2, 1) := by decide +kernel
theorem dL_law_906 : decode cL_law 906 = .ok (.iadd, 1) := by decide +kernel
theorem dL_law_907 : decode cL_law 907 = .ok (.iaload, 1) := by decide +kernel
theorem dL_law_908 : decode cL_law 908 = .ok (.invokevirtual 87, 3) := by decide +kernel
theorem dL_law_911 : decode cL_law 911 = .ok (.if_icmp .eq 459, 3) := by decide +kernel
theorem dL_law_914 : decode cL_law 914 = .ok (.iconst 0, 1) := by decide +kernel
theorem dL_law_915 : decode cL_law 915 = .ok (.ireturn, 1) := by decide +kernel
theorem dL_law_916 : decode cL_law 916 = .ok (.aload_n 1, 1) := by decide +kernel
theorem dL_law_917 : decode cL_law 917 = .ok (.invokevirtual 88, 3) := by decide +kernel
theorem dL_law_920 : decode cL_law 920 = .ok (.aload_n 2, 1) := by decide +kernel
theorem dL_law_921 : decode cL_law 921 = .ok (.invokevirtual 92, 3) := by decide +kernel
theorem dL_law_924 : decode cL_law 924 = .ok (.if_icmp .eq 446, 3) := by decide +kernel
theorem dL_law_927 : decode cL_law 927 = .ok (.iconst 0, 1) := by decide +kernel
theorem dL_law_928 : decode cL_law 928 = .ok (.ireturn, 1) := by decide +kernel
theorem dL_law_929 : decode cL_law 929 = .ok (.aload_n 1, 1) := by decide +kernel
theorem dL_law_930 : decode cL_law 930 = .ok (.aload_n 0, 1) := by decide +kernel
theorem dL_law_931 : decode cL_law 931 = .ok (.iload_n 3, 1) := by decide +kernel
theorem dL_law_932 : decode cL_law 932 = .ok (.iconst 1, 1) := by decide +kernel
theorem dL_law_933 : decode cL_law 933 = .ok (.iadd, 1) := by decide +kernel
theorem dL_law_934 : decode cL_law 934 = .ok (.iaload, 1) := by decide +kernel
theorem dL_law_935 : decode cL_law 935 = .ok (.invokevirtual 93, 3) := by decide +kernel
theorem dL_law_938 : decode cL_law 938 = .ok (.aload_n 2, 1) := by decide +kernel
theorem dL_law_939 : decode cL_law 939 = .ok (.aload_n 0, 1) := by decide +kernel
theorem dL_law_940 : decode cL_law 940 = .ok (.iload_n 3, 1) := by decide +kernel
theorem dL_law_941 : decode cL_law 941 = .ok (.iconst 1, 1) := by decide +kernel
theorem dL_law_942 : decode cL_law 942 = .ok (.iadd, 1) := by decide +kernel
theorem dL_law_943 : decode cL_law 943 = .ok (.iaload, 1) := by decide +kernel
theorem dL_law_944 : decode cL_law 944 = .ok (.invokevirtual 96, 3) := by decide +kernel
theorem dL_law_947 : decode cL_law 947 = .ok (.if_icmp .eq 423, 3) := by decide +kernel
theorem dL_law_950 : decode cL_law 950 = .ok (.iconst 0, 1) := by decide +kernel
theorem dL_law_951 : decode cL_law 951 = .ok (.ireturn, 1) := by decide +kernel
theorem dL_law_952 : decode cL_law 952 = .ok (.aload_n 1, 1) := by decide +kernel
theorem dL_law_953 : decode cL_law 953 = .ok (.invokevirtual 97, 3) := by decide +kernel
theorem dL_law_956 : decode cL_law 956 = .ok (.aload_n 2, 1) := by decide +kernel
theorem dL_law_957 : decode cL_law 957 = .ok (.invokevirtual 100, 3) := by decide +kernel
theorem dL_law_960 : decode cL_law 960 = .ok (.if_icmp .eq 410, 3) := by decide +kernel
theorem dL_law_963 : decode cL_law 963 = .ok (.iconst 0, 1) := by decide +kernel
theorem dL_law_964 : decode cL_law 964 = .ok (.ireturn, 1) := by decide +kernel
theorem dL_law_965 : decode cL_law 965 = .ok (.aload_n 1, 1) := by decide +kernel
theorem dL_law_966 : decode cL_law 966 = .ok (.aload_n 0, 1) := by decide +kernel
theorem dL_law_967 : decode cL_law 967 = .ok (.iload_n 3, 1) := by decide +kernel
theorem dL_law_968 : decode cL_law 968 = .ok (.iconst 1, 1) := by decide +kernel
theorem dL_law_969 : decode cL_law 969 = .ok (.iadd, 1) := by decide +kernel
theorem dL_law_970 : decode cL_law 970 = .ok (.iaload, 1) := by decide +kernel
theorem dL_law_971 : decode cL_law 971 = .ok (.invokevirtual 101, 3) := by decide +kernel
theorem dL_law_974 : decode cL_law 974 = .ok (.aload_n 2, 1) := by decide +kernel
theorem dL_law_975 : decode cL_law 975 = .ok (.aload_n 0, 1) := by decide +kernel
theorem dL_law_976 : decode cL_law 976 = .ok (.iload_n 3, 1) := by decide +kernel
theorem dL_law_977 : decode cL_law 977 = .ok (.iconst 1, 1) := by decide +kernel
theorem dL_law_978 : decode cL_law 978 = .ok (.iadd, 1) := by decide +kernel
theorem dL_law_979 : decode cL_law 979 = .ok (.iaload, 1) := by decide +kernel
theorem dL_law_980 : decode cL_law 980 = .ok (.invokevirtual 104, 3) := by decide +kernel
theorem dL_law_983 : decode cL_law 983 = .ok (.if_icmp .eq 387, 3) := by decide +kernel
theorem dL_law_986 : decode cL_law 986 = .ok (.iconst 0, 1) := by decide +kernel
theorem dL_law_987 : decode cL_law 987 = .ok (.ireturn, 1) := by decide +kernel
theorem dL_law_988 : decode cL_law 988 = .ok (.aload_n 1, 1) := by decide +kernel
theorem dL_law_989 : decode cL_law 989 = .ok (.invokevirtual 105, 3) := by decide +kernel
theorem dL_law_992 : decode cL_law 992 = .ok (.aload_n 2, 1) := by decide +kernel
theorem dL_law_993 : decode cL_law 993 = .ok (.invokevirtual 108, 3) := by decide +kernel
theorem dL_law_996 : decode cL_law 996 = .ok (.if_icmp .eq 374, 3) := by decide +kernel
theorem dL_law_999 : decode cL_law 999 = .ok (.iconst 0, 1) := by decide +kernel
theorem dL_law_1000 : decode cL_law 1000 = .ok (.ireturn, 1) := by decide +kernel
theorem dL_law_1001 : decode cL_law 1001 = .ok (.aload_n 1, 1) := by decide +kernel
theorem dL_law_1002 : decode cL_law 1002 = .ok (.invokevirtual 109, 3) := by decide +kernel
theorem dL_law_1005 : decode cL_law 1005 = .ok (.aload_n 2, 1) := by decide +kernel
theorem dL_law_1006 : decode cL_law 1006 = .ok (.invokevirtual 112, 3) := by decide +kernel
theorem dL_law_1009 : decode cL_law 1009 = .ok (.if_icmp .eq 361, 3) := by decide +kernel
theorem dL_law_1012 : decode cL_law 1012 = .ok (.iconst 0, 1) := by decide +kernel
theorem dL_law_1013 : decode cL_law 1013 = .ok (.ireturn, 1) := by decide +kernel
theorem dL_law_1014 : decode cL_law 1014 = .ok (.aload_n 1, 1) := by decide +kernel
theorem dL_law_1015 : decode cL_law 1015 = .ok (.aload_n 0, 1) := by decide +kernel
theorem dL_law_1016 : decode cL_law 1016 = .ok (.iload_n 3, 1) := by decide +kernel
theorem dL_law_1017 : decode cL_law 1017 = .ok (.iconst 1, 1) := by decide +kernel
theorem dL_law_1018 : decode cL_law 1018 = .ok (.iadd, 1) := by decide +kernel
theorem dL_law_1019 : decode cL_law 1019 = .ok (.iaload, 1) := by decide +kernel
theorem dL_law_1020 : decode cL_law 1020 = .ok (.invokevirtual 113, 3) := by decide +kernel
theorem dL_law_1023 : decode cL_law 1023 = .ok (.aload_n 2, 1) := by decide +kernel
theorem dL_law_1024 : decode cL_law 1024 = .ok (.aload_n 0, 1) := by decide +kernel
theorem dL_law_1025 : decode cL_law 1025 = .ok (.iload_n 3, 1) := by decide +kernel
theorem dL_law_1026 : decode cL_law 1026 = .ok (.iconst 1, 1) := by decide +kernel
theorem dL_law_1027 : decode cL_law 1027 = .ok (.iadd, 1) := by decide +kernel
theorem dL_law_1028 : decode cL_law 1028 = .ok (.iaload, 1) := by decide +kernel
theorem dL_law_1029 : decode cL_law 1029 = .ok (.invokevirtual 116, 3) := by decide +kernel
theorem dL_law_1032 : decode cL_law 1032 = .ok (.if_icmp .eq 338, 3) := by decide +kernel
theorem dL_law_1035 : decode cL_law 1035 = .ok (.iconst 0, 1) := by decide +kernel
theorem dL_law_1036 : decode cL_law 1036 = .ok (.ireturn, 1) := by decide +kernel
theorem dL_law_1037 : decode cL_law 1037 = .ok (.aload_n 1, 1) := by decide +kernel
theorem dL_law_1038 : decode cL_law 1038 = .ok (.aload_n 0, 1) := by decide +kernel
theorem dL_law_1039 : decode cL_law 1039 = .ok (.iload_n 3, 1) := by decide +kernel
theorem dL_law_1040 : decode cL_law 1040 = .ok (.iconst 1, 1) := by decide +kernel
theorem dL_law_1041 : decode cL_law 1041 = .ok (.iadd, 1) := by decide +kernel
theorem dL_law_1042 : decode cL_law 1042 = .ok (.iaload, 1) := by decide +kernel
theorem dL_law_1043 : decode cL_law 1043 = .ok (.aload_n 0, 1) := by decide +kernel
theorem dL_law_1044 : decode cL_law 1044 = .ok (.iload_n 3, 1) := by decide +kernel
theorem dL_law_1045 : decode cL_law 1045 = .ok (.iconst 2, 1) := by decide +kernel
theorem dL_law_1046 : decode cL_law 1046 = .ok (.iadd, 1) := by decide +kernel
theorem dL_law_1047 : decode cL_law 1047 = .ok (.iaload, 1) := by decide +kernel
theorem dL_law_1048 : decode cL_law 1048 = .ok (.aload_n 0, 1) := by decide +kernel
theorem dL_law_1049 : decode cL_law 1049 = .ok (.iload_n 3, 1) := by decide +kernel
theorem dL_law_1050 : decode cL_law 1050 = .ok (.iconst 3, 1) := by decide +kernel
theorem dL_law_1051 : decode cL_law 1051 = .ok (.iadd, 1) := by decide +kernel
theorem dL_law_1052 : decode cL_law 1052 = .ok (.iaload, 1) := by decide +kernel
theorem dL_law_1053 : decode cL_law 1053 = .ok (.ifCond .eq 7, 3) := by decide +kernel
theorem dL_law_1056 : decode cL_law 1056 = .ok (.iconst 1, 1) := by decide +kernel
theorem dL_law_1057 : decode cL_law 1057 = .ok (.goto 4, 3) := by decide +kernel
theorem dL_law_1060 : decode cL_law 1060 = .ok (.iconst 0, 1) := by decide +kernel
theorem dL_law_1061 : decode cL_law 1061 = .ok (.invokevirtual 117, 3) := by decide +kernel
theorem dL_law_1064 : decode cL_law 1064 = .ok (.aload_n 2, 1) := by decide +kernel
theorem dL_law_1065 : decode cL_law 1065 = .ok (.aload_n 0, 1) := by decide +kernel
theorem dL_law_1066 : decode cL_law 1066 = .ok (.iload_n 3, 1) := by decide +kernel
theorem dL_law_1067 : decode cL_law 1067 = .ok (.iconst 1, 1) := by decide +kernel
theorem dL_law_1068 : decode cL_law 1068 = .ok (.iadd, 1) := by decide +kernel
theorem dL_law_1069 : decode cL_law 1069 = .ok (.iaload, 1) := by decide +kernel
theorem dL_law_1070 : decode cL_law 1070 = .ok (.aload_n 0, 1) := by decide +kernel
theorem dL_law_1071 : decode cL_law 1071 = .ok (.iload_n 3, 1) := by decide +kernel
theorem dL_law_1072 : decode cL_law 1072 = .ok (.iconst 2, 1) := by decide +kernel
theorem dL_law_1073 : decode cL_law 1073 = .ok (.iadd, 1) := by decide +kernel
theorem dL_law_1074 : decode cL_law 1074 = .ok (.iaload, 1) := by decide +kernel
theorem dL_law_1075 : decode cL_law 1075 = .ok (.aload_n 0, 1) := by decide +kernel
theorem dL_law_1076 : decode cL_law 1076 = .ok (.iload_n 3, 1) := by decide +kernel
theorem dL_law_1077 : decode cL_law 1077 = .ok (.iconst 3, 1) := by decide +kernel
theorem dL_law_1078 : decode cL_law 1078 = .ok (.iadd, 1) := by decide +kernel
theorem dL_law_1079 : decode cL_law 1079 = .ok (.iaload, 1) := by decide +kernel
theorem dL_law_1080 : decode cL_law 1080 = .ok (.ifCond .eq 7, 3) := by decide +kernel
theorem dL_law_1083 : decode cL_law 1083 = .ok (.iconst 1, 1) := by decide +kernel
theorem dL_law_1084 : decode cL_law 1084 = .ok (.goto 4, 3) := by decide +kernel
theorem dL_law_1087 : decode cL_law 1087 = .ok (.iconst 0, 1) := by decide +kernel
theorem dL_law_1088 : decode cL_law 1088 = .ok (.invokevirtual 121, 3) := by decide +kernel
theorem dL_law_1091 : decode cL_law 1091 = .ok (.lcmp, 1) := by decide +kernel
theorem dL_law_1092 : decode cL_law 1092 = .ok (.ifCond .eq 278, 3) := by decide +kernel
theorem dL_law_1095 : decode cL_law 1095 = .ok (.iconst 0, 1) := by decide +kernel
theorem dL_law_1096 : decode cL_law 1096 = .ok (.ireturn, 1) := by decide +kernel
theorem dL_law_1097 : decode cL_law 1097 = .ok (.aload_n 1, 1) := by decide +kernel
theorem dL_law_1098 : decode cL_law 1098 = .ok (.invokevirtual 122, 3) := by decide +kernel
theorem dL_law_1101 : decode cL_law 1101 = .ok (.aload_n 2, 1) := by decide +kernel
theorem dL_law_1102 : decode cL_law 1102 = .ok (.invokevirtual 125, 3) := by decide +kernel
theorem dL_law_1105 : decode cL_law 1105 = .ok (.if_icmp .eq 265, 3) := by decide +kernel
theorem dL_law_1108 : decode cL_law 1108 = .ok (.iconst 0, 1) := by decide +kernel
theorem dL_law_1109 : decode cL_law 1109 = .ok (.ireturn, 1) := by decide +kernel
theorem dL_law_1110 : decode cL_law 1110 = .ok (.aload_n 1, 1) := by decide +kernel
theorem dL_law_1111 : decode cL_law 1111 = .ok (.aload_n 0, 1) := by decide +kernel
theorem dL_law_1112 : decode cL_law 1112 = .ok (.iload_n 3, 1) := by decide +kernel
theorem dL_law_1113 : decode cL_law 1113 = .ok (.iconst 1, 1) := by decide +kernel
theorem dL_law_1114 : decode cL_law 1114 = .ok (.iadd, 1) := by decide +kernel
theorem dL_law_1115 : decode cL_law 1115 = .ok (.iaload, 1) := by decide +kernel
theorem dL_law_1116 : decode cL_law 1116 = .ok (.invokevirtual 126, 3) := by decide +kernel
theorem dL_law_1119 : decode cL_law 1119 = .ok (.aload_n 2, 1) := by decide +kernel
theorem dL_law_1120 : decode cL_law 1120 = .ok (.aload_n 0, 1) := by decide +kernel
theorem dL_law_1121 : decode cL_law 1121 = .ok (.iload_n 3, 1) := by decide +kernel
theorem dL_law_1122 : decode cL_law 1122 = .ok (.iconst 1, 1) := by decide +kernel
theorem dL_law_1123 : decode cL_law 1123 = .ok (.iadd, 1) := by decide +kernel
theorem dL_law_1124 : decode cL_law 1124 = .ok (.iaload, 1) := by decide +kernel
theorem dL_law_1125 : decode cL_law 1125 = .ok (.invokevirtual 129, 3) := by decide +kernel
theorem dL_law_1128 : decode cL_law 1128 = .ok (.if_icmp .eq 242, 3) := by decide +kernel
theorem dL_law_1131 : decode cL_law 1131 = .ok (.iconst 0, 1) := by decide +kernel
theorem dL_law_1132 : decode cL_law 1132 = .ok (.ireturn, 1) := by decide +kernel
theorem dL_law_1133 : decode cL_law 1133 = .ok (.aload_n 1, 1) := by decide +kernel
theorem dL_law_1134 : decode cL_law 1134 = .ok (.invokevirtual 130, 3) := by decide +kernel
theorem dL_law_1137 : decode cL_law 1137 = .ok (.aload_n 2, 1) := by decide +kernel
theorem dL_law_1138 : decode cL_law 1138 = .ok (.invokevirtual 133, 3) := by decide +kernel
theorem dL_law_1141 : decode cL_law 1141 = .ok (.if_icmp .eq 229, 3) := by decide +kernel
theorem dL_law_1144 : decode cL_law 1144 = .ok (.iconst 0, 1) := by decide +kernel
theorem dL_law_1145 : decode cL_law 1145 = .ok (.ireturn, 1) := by decide +kernel
theorem dL_law_1146 : decode cL_law 1146 = .ok (.aload_n 1, 1) := by decide +kernel
theorem dL_law_1147 : decode cL_law 1147 = .ok (.aload_n 0, 1) := by decide +kernel
theorem dL_law_1148 : decode cL_law 1148 = .ok (.iload_n 3, 1) := by decide +kernel
theorem dL_law_1149 : decode cL_law 1149 = .ok (.iconst 1, 1) := by decide +kernel
theorem dL_law_1150 : decode cL_law 1150 = .ok (.iadd, 1) := by decide +kernel
theorem dL_law_1151 : decode cL_law 1151 = .ok (.iaload, 1) := by decide +kernel
theorem dL_law_1152 : decode cL_law 1152 = .ok (.invokevirtual 134, 3) := by decide +kernel
theorem dL_law_1155 : decode cL_law 1155 = .ok (.aload_n 2, 1) := by decide +kernel
theorem dL_law_1156 : decode cL_law 1156 = .ok (.aload_n 0, 1) := by decide +kernel
theorem dL_law_1157 : decode cL_law 1157 = .ok (.iload_n 3, 1) := by decide +kernel
theorem dL_law_1158 : decode cL_law 1158 = .ok (.iconst 1, 1) := by decide +kernel
theorem dL_law_1159 : decode cL_law 1159 = .ok (.iadd, 1) := by decide +kernel
theorem dL_law_1160 : decode cL_law 1160 = .ok (.iaload, 1) := by decide +kernel
theorem dL_law_1161 : decode cL_law 1161 = .ok (.invokevirtual 137, 3) := by decide +kernel
theorem dL_law_1164 : decode cL_law 1164 = .ok (.if_icmp .eq 206, 3) := by decide +kernel
theorem dL_law_1167 : decode cL_law 1167 = .ok (.iconst 0, 1) := by decide +kernel
theorem dL_law_1168 : decode cL_law 1168 = .ok (.ireturn, 1) := by decide +kernel
theorem dL_law_1169 : decode cL_law 1169 = .ok (.aload_n 1, 1) := by decide +kernel
theorem dL_law_1170 : decode cL_law 1170 = .ok (.aload_n 0, 1) := by decide +kernel
theorem dL_law_1171 : decode cL_law 1171 = .ok (.iload_n 3, 1) := by decide +kernel
theorem dL_law_1172 : decode cL_law 1172 = .ok (.iconst 1, 1) := by decide +kernel
theorem dL_law_1173 : decode cL_law 1173 = .ok (.iadd, 1) := by decide +kernel
theorem dL_law_1174 : decode cL_law 1174 = .ok (.iaload, 1) := by decide +kernel
theorem dL_law_1175 : decode cL_law 1175 = .ok (.aload_n 0, 1) := by decide +kernel
theorem dL_law_1176 : decode cL_law 1176 = .ok (.iload_n 3, 1) := by decide +kernel
theorem dL_law_1177 : decode cL_law 1177 = .ok (.iconst 2, 1) := by decide +kernel
theorem dL_law_1178 : decode cL_law 1178 = .ok (.iadd, 1) := by decide +kernel
theorem dL_law_1179 : decode cL_law 1179 = .ok (.iaload, 1) := by decide +kernel
theorem dL_law_1180 : decode cL_law 1180 = .ok (.aload_n 0, 1) := by decide +kernel
theorem dL_law_1181 : decode cL_law 1181 = .ok (.iload_n 3, 1) := by decide +kernel
theorem dL_law_1182 : decode cL_law 1182 = .ok (.iconst 3, 1) := by decide +kernel
theorem dL_law_1183 : decode cL_law 1183 = .ok (.iadd, 1) := by decide +kernel
theorem dL_law_1184 : decode cL_law 1184 = .ok (.iaload, 1) := by decide +kernel
theorem dL_law_1185 : decode cL_law 1185 = .ok (.i2l, 1) := by decide +kernel
theorem dL_law_1186 : decode cL_law 1186 = .ok (.bipush 32, 2) := by decide +kernel
theorem dL_law_1188 : decode cL_law 1188 = .ok (.lshl, 1) := by decide +kernel
theorem dL_law_1189 : decode cL_law 1189 = .ok (.aload_n 0, 1) := by decide +kernel
theorem dL_law_1190 : decode cL_law 1190 = .ok (.iload_n 3, 1) := by decide +kernel
theorem dL_law_1191 : decode cL_law 1191 = .ok (.iconst 4, 1) := by decide +kernel
theorem dL_law_1192 : decode cL_law 1192 = .ok (.iadd, 1) := by decide +kernel
theorem dL_law_1193 : decode cL_law 1193 = .ok (.iaload, 1) := by decide +kernel
theorem dL_law_1194 : decode cL_law 1194 = .ok (.i2l, 1) := by decide +kernel
theorem dL_law_1195 : decode cL_law 1195 = .ok (.ldc2_w 23, 3) := by decide +kernel
theorem dL_law_1198 : decode cL_law 1198 = .ok (.land, 1) := by decide +kernel
theorem dL_law_1199 : decode cL_law 1199 = .ok (.lor, 1) := by decide +kernel
theorem dL_law_1200 : decode cL_law 1200 = .ok (.invokevirtual 138, 3) := by decide +kernel
theorem dL_law_1203 : decode cL_law 1203 = .ok (.aload_n 2, 1) := by decide +kernel
theorem dL_law_1204 : decode cL_law 1204 = .ok (.aload_n 0, 1) := by decide +kernel
theorem dL_law_1205 : decode cL_law 1205 = .ok (.iload_n 3, 1) := by decide +kernel
theorem dL_law_1206 : decode cL_law 1206 = .ok (.iconst 1, 1) := by decide +kernel
theorem dL_law_1207 : decode cL_law 1207 = .ok (.iadd, 1) := by decide +kernel
theorem dL_law_1208 : decode cL_law 1208 = .ok (.iaload, 1) := by decide +kernel
theorem dL_law_1209 : decode cL_law 1209 = .ok (.aload_n 0, 1) := by decide +kernel
theorem dL_law_1210 : decode cL_law 1210 = .ok (.iload_n 3, 1) := by decide +kernel
theorem dL_law_1211 : decode cL_law 1211 = .ok (.iconst 2, 1) := by decide +kernel
theorem dL_law_1212 : decode cL_law 1212 = .ok (.iadd, 1) := by decide +kernel
theorem dL_law_1213 : decode cL_law 1213 = .ok (.iaload, 1) := by decide +kernel
theorem dL_law_1214 : decode cL_law 1214 = .ok (.aload_n 0, 1) := by decide +kernel
theorem dL_law_1215 : decode cL_law 1215 = .ok (.iload_n 3, 1) := by decide +kernel
theorem dL_law_1216 : decode cL_law 1216 = .ok (.iconst 3, 1) := by decide +kernel
theorem dL_law_1217 : decode cL_law 1217 = .ok (.iadd, 1) := by decide +kernel
theorem dL_law_1218 : decode cL_law 1218 = .ok (.iaload, 1) := by decide +kernel
theorem dL_law_1219 : decode cL_law 1219 = .ok (.i2l, 1) := by decide +kernel
theorem dL_law_1220 : decode cL_law 1220 = .ok (.bipush 32, 2) := by decide +kernel
theorem dL_law_1222 : decode cL_law 1222 = .ok (.lshl, 1) := by decide +kernel
theorem dL_law_1223 : decode cL_law 1223 = .ok (.aload_n 0, 1) := by decide +kernel
theorem dL_law_1224 : decode cL_law 1224 = .ok (.iload_n 3, 1) := by decide +kernel
theorem dL_law_1225 : decode cL_law 1225 = .ok (.iconst 4, 1) := by decide +kernel
theorem dL_law_1226 : decode cL_law 1226 = .ok (.iadd, 1) := by decide +kernel
theorem dL_law_1227 : decode cL_law 1227 = .ok (.iaload, 1) := by decide +kernel
theorem dL_law_1228 : decode cL_law 1228 = .ok (.i2l, 1) := by decide +kernel
theorem dL_law_1229 : decode cL_law 1229 = .ok (.ldc2_w 23, 3) := by decide +kernel
theorem dL_law_1232 : decode cL_law 1232 = .ok (.land, 1) := by decide +kernel
theorem dL_law_1233 : decode cL_law 1233 = .ok (.lor, 1) := by decide +kernel
theorem dL_law_1234 : decode cL_law 1234 = .ok (.invokevirtual 141, 3) := by decide +kernel
theorem dL_law_1237 : decode cL_law 1237 = .ok (.if_icmp .eq 133, 3) := by decide +kernel
theorem dL_law_1240 : decode cL_law 1240 = .ok (.iconst 0, 1) := by decide +kernel
theorem dL_law_1241 : decode cL_law 1241 = .ok (.ireturn, 1) := by decide +kernel
theorem dL_law_1242 : decode cL_law 1242 = .ok (.aload_n 1, 1) := by decide +kernel
theorem dL_law_1243 : decode cL_law 1243 = .ok (.aload_n 0, 1) := by decide +kernel
theorem dL_law_1244 : decode cL_law 1244 = .ok (.iload_n 3, 1) := by decide +kernel
theorem dL_law_1245 : decode cL_law 1245 = .ok (.iconst 1, 1) := by decide +kernel
theorem dL_law_1246 : decode cL_law 1246 = .ok (.iadd, 1) := by decide +kernel
theorem dL_law_1247 : decode cL_law 1247 = .ok (.iaload, 1) := by decide +kernel
theorem dL_law_1248 : decode cL_law 1248 = .ok (.aload_n 0, 1) := by decide +kernel
theorem dL_law_1249 : decode cL_law 1249 = .ok (.iload_n 3, 1) := by decide +kernel
theorem dL_law_1250 : decode cL_law 1250 = .ok (.iconst 2, 1) := by decide +kernel
theorem dL_law_1251 : decode cL_law 1251 = .ok (.iadd, 1) := by decide +kernel
theorem dL_law_1252 : decode cL_law 1252 = .ok (.iaload, 1) := by decide +kernel
theorem dL_law_1253 : decode cL_law 1253 = .ok (.aload_n 0, 1) := by decide +kernel
theorem dL_law_1254 : decode cL_law 1254 = .ok (.iload_n 3, 1) := by decide +kernel
theorem dL_law_1255 : decode cL_law 1255 = .ok (.iconst 3, 1) := by decide +kernel
theorem dL_law_1256 : decode cL_law 1256 = .ok (.iadd, 1) := by decide +kernel
theorem dL_law_1257 : decode cL_law 1257 = .ok (.iaload, 1) := by decide +kernel
theorem dL_law_1258 : decode cL_law 1258 = .ok (.aload_n 0, 1) := by decide +kernel
theorem dL_law_1259 : decode cL_law 1259 = .ok (.iload_n 3, 1) := by decide +kernel
theorem dL_law_1260 : decode cL_law 1260 = .ok (.iconst 4, 1) := by decide +kernel
theorem dL_law_1261 : decode cL_law 1261 = .ok (.iadd, 1) := by decide +kernel
theorem dL_law_1262 : decode cL_law 1262 = .ok (.iaload, 1) := by decide +kernel
theorem dL_law_1263 : decode cL_law 1263 = .ok (.invokevirtual 142, 3) := by decide +kernel
theorem dL_law_1266 : decode cL_law 1266 = .ok (.aload_n 2, 1) := by decide +kernel
theorem dL_law_1267 : decode cL_law 1267 = .ok (.aload_n 0, 1) := by decide +kernel
theorem dL_law_1268 : decode cL_law 1268 = .ok (.iload_n 3, 1) := by decide +kernel
theorem dL_law_1269 : decode cL_law 1269 = .ok (.iconst 1, 1) := by decide +kernel
theorem dL_law_1270 : decode cL_law 1270 = .ok (.iadd, 1) := by decide +kernel
theorem dL_law_1271 : decode cL_law 1271 = .ok (.iaload, 1) := by decide +kernel
theorem dL_law_1272 : decode cL_law 1272 = .ok (.aload_n 0, 1) := by decide +kernel
theorem dL_law_1273 : decode cL_law 1273 = .ok (.iload_n 3, 1) := by decide +kernel
theorem dL_law_1274 : decode cL_law 1274 = .ok (.iconst 2, 1) := by decide +kernel
theorem dL_law_1275 : decode cL_law 1275 = .ok (.iadd, 1) := by decide +kernel
theorem dL_law_1276 : decode cL_law 1276 = .ok (.iaload, 1) := by decide +kernel
theorem dL_law_1277 : decode cL_law 1277 = .ok (.aload_n 0, 1) := by decide +kernel
theorem dL_law_1278 : decode cL_law 1278 = .ok (.iload_n 3, 1) := by decide +kernel
theorem dL_law_1279 : decode cL_law 1279 = .ok (.iconst 3, 1) := by decide +kernel
theorem dL_law_1280 : decode cL_law 1280 = .ok (.iadd, 1) := by decide +kernel
theorem dL_law_1281 : decode cL_law 1281 = .ok (.iaload, 1) := by decide +kernel
theorem dL_law_1282 : decode cL_law 1282 = .ok (.aload_n 0, 1) := by decide +kernel
theorem dL_law_1283 : decode cL_law 1283 = .ok (.iload_n 3, 1) := by decide +kernel
theorem dL_law_1284 : decode cL_law 1284 = .ok (.iconst 4, 1) := by decide +kernel
theorem dL_law_1285 : decode cL_law 1285 = .ok (.iadd, 1) := by decide +kernel
theorem dL_law_1286 : decode cL_law 1286 = .ok (.iaload, 1) := by decide +kernel
theorem dL_law_1287 : decode cL_law 1287 = .ok (.invokevirtual 145, 3) := by decide +kernel
theorem dL_law_1290 : decode cL_law 1290 = .ok (.if_icmp .eq 80, 3) := by decide +kernel
theorem dL_law_1293 : decode cL_law 1293 = .ok (.iconst 0, 1) := by decide +kernel
theorem dL_law_1294 : decode cL_law 1294 = .ok (.ireturn, 1) := by decide +kernel
theorem dL_law_1295 : decode cL_law 1295 = .ok (.aload_n 1, 1) := by decide +kernel
theorem dL_law_1296 : decode cL_law 1296 = .ok (.invokevirtual 146, 3) := by decide +kernel
theorem dL_law_1299 : decode cL_law 1299 = .ok (.aload_n 2, 1) := by decide +kernel
theorem dL_law_1300 : decode cL_law 1300 = .ok (.invokevirtual 149, 3) := by decide +kernel
theorem dL_law_1303 : decode cL_law 1303 = .ok (.if_icmp .eq 67, 3) := by decide +kernel
theorem dL_law_1306 : decode cL_law 1306 = .ok (.iconst 0, 1) := by decide +kernel
theorem dL_law_1307 : decode cL_law 1307 = .ok (.ireturn, 1) := by decide +kernel
theorem dL_law_1308 : decode cL_law 1308 = .ok (.aload_n 1, 1) := by decide +kernel
theorem dL_law_1309 : decode cL_law 1309 = .ok (.invokevirtual 150, 3) := by decide +kernel
theorem dL_law_1312 : decode cL_law 1312 = .ok (.aload_n 2, 1) := by decide +kernel
theorem dL_law_1313 : decode cL_law 1313 = .ok (.invokevirtual 153, 3) := by decide +kernel
theorem dL_law_1316 : decode cL_law 1316 = .ok (.if_icmp .eq 54, 3) := by decide +kernel
theorem dL_law_1319 : decode cL_law 1319 = .ok (.iconst 0, 1) := by decide +kernel
theorem dL_law_1320 : decode cL_law 1320 = .ok (.ireturn, 1) := by decide +kernel
theorem dL_law_1321 : decode cL_law 1321 = .ok (.aload_n 1, 1) := by decide +kernel
theorem dL_law_1322 : decode cL_law 1322 = .ok (.invokevirtual 154, 3) := by decide +kernel
theorem dL_law_1325 : decode cL_law 1325 = .ok (.aload_n 2, 1) := by decide +kernel
theorem dL_law_1326 : decode cL_law 1326 = .ok (.invokevirtual 157, 3) := by decide +kernel
theorem dL_law_1329 : decode cL_law 1329 = .ok (.if_icmp .eq 41, 3) := by decide +kernel
theorem dL_law_1332 : decode cL_law 1332 = .ok (.iconst 0, 1) := by decide +kernel
theorem dL_law_1333 : decode cL_law 1333 = .ok (.ireturn, 1) := by decide +kernel
theorem dL_law_1334 : decode cL_law 1334 = .ok (.aload_n 1, 1) := by decide +kernel
theorem dL_law_1335 : decode cL_law 1335 = .ok (.invokevirtual 158, 3) := by decide +kernel
theorem dL_law_1338 : decode cL_law 1338 = .ok (.aload_n 2, 1) := by decide +kernel
theorem dL_law_1339 : decode cL_law 1339 = .ok (.invokevirtual 161, 3) := by decide +kernel
theorem dL_law_1342 : decode cL_law 1342 = .ok (.if_icmp .eq 28, 3) := by decide +kernel
theorem dL_law_1345 : decode cL_law 1345 = .ok (.iconst 0, 1) := by decide +kernel
theorem dL_law_1346 : decode cL_law 1346 = .ok (.ireturn, 1) := by decide +kernel
theorem dL_law_1347 : decode cL_law 1347 = .ok (.aload_n 1, 1) := by decide +kernel
theorem dL_law_1348 : decode cL_law 1348 = .ok (.aload_n 0, 1) := by decide +kernel
theorem dL_law_1349 : decode cL_law 1349 = .ok (.iload_n 3, 1) := by decide +kernel
theorem dL_law_1350 : decode cL_law 1350 = .ok (.iconst 1, 1) := by decide +kernel
theorem dL_law_1351 : decode cL_law 1351 = .ok (.iadd, 1) := by decide +kernel
theorem dL_law_1352 : decode cL_law 1352 = .ok (.iaload, 1) := by decide +kernel
theorem dL_law_1353 : decode cL_law 1353 = .ok (.invokevirtual 162, 3) := by decide +kernel
theorem dL_law_1356 : decode cL_law 1356 = .ok (.aload_n 2, 1) := by decide +kernel
theorem dL_law_1357 : decode cL_law 1357 = .ok (.aload_n 0, 1) := by decide +kernel
theorem dL_law_1358 : decode cL_law 1358 = .ok (.iload_n 3, 1) := by decide +kernel
theorem dL_law_1359 : decode cL_law 1359 = .ok (.iconst 1, 1) := by decide +kernel
theorem dL_law_1360 : decode cL_law 1360 = .ok (.iadd, 1) := by decide +kernel
theorem dL_law_1361 : decode cL_law 1361 = .ok (.iaload, 1) := by decide +kernel
theorem dL_law_1362 : decode cL_law 1362 = .ok (.invokevirtual 165, 3) := by decide +kernel
theorem dL_law_1365 : decode cL_law 1365 = .ok (.if_icmp .eq 5, 3) := by decide +kernel
theorem dL_law_1368 : decode cL_law 1368 = .ok (.iconst 0, 1) := by decide +kernel
theorem dL_law_1369 : decode cL_law 1369 = .ok (.ireturn, 1) := by decide +kernel
theorem dL_law_1370 : decode cL_law 1370 = .ok (.iinc 3 9, 3) := by decide +kernel
theorem dL_law_1373 : decode cL_law 1373 = .ok (.goto (-1355), 3) := by decide +kernel
theorem dL_law_1376 : decode cL_law 1376 = .ok (.iconst 1, 1) := by decide +kernel
theorem dL_law_1377 : decode cL_law 1377 = .ok (.ireturn, 1) := by decide +kernel
end
section
-- the judgement P over one world: all cells of both objects, cell k at the address b0 + k; what they hold is a value of SS
abbrev SS : Type := (Nat → Nat → Nat) × (Nat → Nat → Int64) × (Nat → Nat → Option Nat)
abbrev GG : Type := Launch × va_G × (Nat → ClassId) × Nat
def ad (G : GG) (k : Nat) : Nat := G.2.2.2 + k
/-- what the cells are, in the order in which they are made: kind (0..10 an object of that class of vwCl; 11 int[], 12 long[], 13 boolean[]; 20 + c an array of objects of class c), how many slots -/
def layL : List (Nat × Nat) := [(9, 6), (28, 4), (7, 2), (26, 12)] ++ [(6, 5), (12, 6), (13, 6)] ++ [(6, 5), (12, 6), (13, 6)] ++ [(6, 5), (12, 6), (13, 6)] ++ [(6, 5), (12, 6), (13, 6)] ++ [(6, 5), (12, 6), (13, 6)] ++ [(6, 5), (12, 6), (13, 6)] ++ [(6, 5), (12, 6), (13, 6)] ++ [(6, 5), (12, 6), (13, 6)] ++ [(6, 5), (12, 6), (13, 6)] ++ [(6, 5), (12, 6), (13, 6)] ++ [(6, 5), (12, 6), (13, 6)] ++ [(6, 5), (12, 6), (13, 6)] ++
  [(2, 5), (21, 10), (11, 4096)] ++ List.replicate 10 (1, 8) ++ [(3, 7), (11, 4096), (13, 4096), (13, 4096)] ++ [(5, 8), (24, 3), (20, 6), (11, 3), (11, 3), (13, 4096)] ++ [(4, 3), (13, 6), (12, 6)] ++ [(4, 3), (13, 6), (12, 6)] ++ [(4, 3), (13, 6), (12, 6)] ++ List.replicate 6 (0, 4) ++ [(8, 2), (11, 6)] ++ [(8, 2), (11, 6)] ++ [(8, 2), (11, 6)] ++ [(8, 2), (11, 6)] ++
  [(10, 36), (11, 4), (11, 24), (11, 12), (11, 12), (13, 12), (13, 72), (12, 72), (11, 10), (11, 10), (11, 10), (11, 10), (11, 10), (12, 10), (12, 10), (13, 10), (11, 3), (13, 18), (12, 18), (11, 6), (11, 6), (11, 6), (11, 6), (11, 4096), (13, 4096), (11, 4096), (12, 12), (11, 3)]
def lay (k : Nat) : Nat × Nat := layL.getD k (99, 0)
/-- the fields' types: 0 an int or a boolean, 1 a long, 2 a reference -/
def ftyL : List (List Nat) := [[0, 0, 0, 0], [0, 0, 0, 0, 0, 1, 1, 0], [2, 2, 0, 2, 0], [2, 2, 2, 0, 0, 2, 2], [2, 2, 0], [2, 2, 0, 2, 0, 2, 2, 2], [2, 2, 0, 0, 0], [2, 0], [2, 0], [2, 2, 2, 2, 2, 0],
  [0, 2, 2, 0, 2, 2, 2, 2, 2, 0, 2, 2, 2, 2, 2, 2, 2, 2, 0, 0, 2, 2, 2, 0, 2, 2, 2, 2, 0, 0, 2, 2, 0, 2, 2, 2]]
def fty (c j : Nat) : Nat := (ftyL.getD c []).getD j 3
def szs : Nat → Nat
  | 0 => 0
  | n + 1 => szs n + (lay n).2
def fv (G : GG) (σ : SS) (k t j : Nat) : Value := if t = 0 then .int (nI (σ.1 k j)) else if t = 1 then .long (σ.2.1 k j) else va_rf ((σ.2.2 k j).map (fun q => ad G q))
def cellAt (G : GG) (σ : SS) (k kd n : Nat) : va_E :=
  if kd < 11 then .inr (kd, (List.range n).map (fun j => fv G σ k (fty kd j) j))
  else if kd = 11 then .inl (G.2.2.1 0, n, .inl fun j => nI (σ.1 k j))
  else if kd = 12 then .inl (G.2.2.1 1, n, .inr (.inl (σ.2.1 k)))
  else if kd = 13 then .inl (G.2.2.1 2, n, .inl fun j => nI (σ.1 k j))
  else .inl (G.2.2.1 kd, n, .inr (.inr (.inr (.inr (fun j => (σ.2.2 k j).map (fun q => ad G q))))))
def cellOf (G : GG) (σ : SS) (k : Nat) : va_E := cellAt G σ k (lay k).1 (lay k).2
def wsl (G : GG) (n : Nat) (σ : SS) : va_W := (List.range n).map fun k => (ad G k, cellOf G σ k)
def tysl (G : GG) : List (ClassId × FieldType) := [(G.2.2.1 0, .int), (G.2.2.1 1, .long), (G.2.2.1 2, .boolean), (G.2.2.1 20, .object RX0), (G.2.2.1 21, .object RX1), (G.2.2.1 24, .object RX4), (G.2.2.1 26, .object RX6), (G.2.2.1 28, .object RX8)]
def A0 (G : GG) : Nat → Prop := fun q => G.2.2.2 ≤ q
theorem wsl_get {G : GG} {n : Nat} {σ : SS} {k : Nat} (h : k < n) : (wsl G n σ)[k]? = some (ad G k, cellOf G σ k) := by
  simp [wsl, h]
theorem wsl_inv {G : GG} {n : Nat} {σ : SS} {k : Nat} {q : Nat × va_E} (h : (wsl G n σ)[k]? = some q) : k < n ∧ q = (ad G k, cellOf G σ k) := by
  have hk : k < n := by
    have := (List.getElem?_eq_some_iff.mp h).1
    simpa [wsl] using this
  rw [wsl_get hk] at h
  exact ⟨hk, (Option.some.inj h).symm⟩
theorem wsl_D (G : GG) (n : Nat) (σ : SS) : va_D (A0 G) (wsl G n σ) := by
  refine ⟨fun i j p q hi hj hpq => ?_, fun k q hk => ?_⟩
  · obtain ⟨-, rfl⟩ := wsl_inv hi
    obtain ⟨-, rfl⟩ := wsl_inv hj
    simp only [ad] at hpq
    omega
  · obtain ⟨-, rfl⟩ := wsl_inv hk
    simp only [A0, ad]
    omega
theorem wsl_set {G : GG} {n : Nat} {σ σ' : SS} {k : Nat} {e : va_E} (he : cellOf G σ' k = e) (ho : ∀ q, q ≠ k → cellOf G σ' q = cellOf G σ q) : (wsl G n σ).set k (ad G k, e) = wsl G n σ' := by
  apply List.ext_getElem?
  intro i
  by_cases hi : i < n
  · by_cases hik : i = k
    · subst hik
      rw [List.getElem?_set_self (by simpa [wsl] using hi), wsl_get hi, he]
    · rw [List.getElem?_set_ne (Ne.symm hik), wsl_get hi, wsl_get hi, ho i hik]
  · rw [List.getElem?_eq_none (by simp [wsl]; omega), List.getElem?_eq_none (by simp [wsl]; omega)]
theorem wsl_push (G : GG) (n : Nat) (σ σ' : SS) {e : va_E} (he : cellOf G σ' n = e) (ho : ∀ q, q < n → cellOf G σ' q = cellOf G σ q) : wsl G n σ ++ [(ad G n, e)] = wsl G (n + 1) σ' := by
  simp only [wsl, List.range_succ, List.map_append, List.map_cons, List.map_nil, he]
  congr 1
  apply List.map_congr_left
  intro q hq
  rw [ho q (List.mem_range.mp hq)]
theorem cellAt_row {G : GG} {σ σ' : SS} {k kd n : Nat} (h1 : σ'.1 k = σ.1 k) (h2 : σ'.2.1 k = σ.2.1 k) (h3 : σ'.2.2 k = σ.2.2 k) : cellAt G σ' k kd n = cellAt G σ k kd n := by
  simp only [cellAt, fv, h1, h2, h3]
theorem cellOf_row {G : GG} {σ σ' : SS} {k : Nat} (h1 : σ'.1 k = σ.1 k) (h2 : σ'.2.1 k = σ.2.1 k) (h3 : σ'.2.2 k = σ.2.2 k) : cellOf G σ' k = cellOf G σ k := cellAt_row h1 h2 h3
/-- one slot written -/
def uf {α : Type} (f : Nat → Nat → α) (k j : Nat) (v : α) : Nat → Nat → α := fun a b => if a = k ∧ b = j then v else f a b
theorem uf_self {α : Type} (f : Nat → Nat → α) (k j : Nat) (v : α) : uf f k j v k j = v := by simp [uf]
theorem uf_ne {α : Type} (f : Nat → Nat → α) {k j a b : Nat} (v : α) (h : a ≠ k ∨ b ≠ j) : uf f k j v a b = f a b := by
  simp only [uf]
  rw [if_neg]
  rintro ⟨rfl, rfl⟩
  rcases h with h | h <;> exact h rfl
theorem uf_row {α : Type} (f : Nat → Nat → α) {k j a : Nat} (v : α) (h : a ≠ k) : uf f k j v a = f a := by
  funext b
  exact uf_ne f v (Or.inl h)
-- the words of the tables: those that stay as they are, and the nest mates' and arrays' words
def gtbl : List Cond := lw_tbl.filter goodWord
def isNest : Cond → Bool
  | .methodLinkNest .. => true
  | _ => false
def nstW : List Cond := lw_tbl.filter isNest
def overs : List String := [RX0, RX1, RX4, RX6, RX8]
theorem tog {w : Cond} (h : w ∈ lw_tbl) (hg : goodWord w = true) : w ∈ gtbl := List.mem_filter.mpr ⟨h, hg⟩
theorem gtbl_good : ∀ w ∈ gtbl, goodWord w = true := fun _ h => (List.mem_filter.mp h).2
theorem lays_good {C : String} {T : u_T} {N : Nat} : ∀ w ∈ u_ws C T N, goodWord w = true := by
  intro w h
  obtain ⟨k, -, rfl⟩ := List.mem_map.mp h
  unfold u_lay
  split <;> rfl
-- the judgement
/-- a method: its name, bytes, locals, answer, frames -/
abbrev MI : Type := MethodName × ByteArray × Nat × Option FieldType × Nat
def mws (mi : MI) : List Cond := Cond.code mi.1 mi.2.1 mi.2.2.1 mi.2.2.2.1 :: gtbl
def mrm (mi : MI) (mc ms : Nat) : Room := { frames := mi.2.2.2.2, cells := mc, slots := ms, locals := 40 * mi.2.2.2.2 }
/-- what holds of the classes in every state -/
def Kl (G : GG) (U : State) : Prop := va_K G.2.1 vwCl (tysl G) U ∧ (∀ w ∈ nstW, va_Nw w U) ∧ ∀ C ∈ overs, va_AO C U
def Hp (G : GG) (n : Nat) (σ : SS) (H : Heap) : Prop := H.size = ad G n ∧ va_P G.2.1 vwCl (wsl G n σ) H
def Wd (G : GG) (n : Nat) (σ : SS) (U : State) : Prop := Hp G n σ U.heap ∧ Kl G U
def Qo (G : GG) (r : Option Value) (n : Nat) (σ : SS) : Array Value → State → Outcome → State → Prop := fun _ st o t => o = .returned r ∧ Hp G n σ t.heap ∧ va_F (A0 G) st t
def Spec (G : GG) (mi : MI) (as : List Value) (n0 : Nat) (σ0 : SS) (r : Option Value) (n1 : Nat) (σ1 : SS) : Prop :=
  (n0 ≤ n1 ∧ szs n0 ≤ szs n1) ∧ Met G.1 mi.1 (mws mi) (mrm mi (n1 - n0) (szs n1 - szs n0)) (va_Pc as (Wd G n0 σ0)) (Qo G r n1 σ1) (n1 - n0) (szs n1 - szs n0) (A0 G)
abbrev KK : Type := Room × Nat × (State → Array Value → Method → Prop) × (State → Array Value → List Frame → State → Prop)
def KM (G : GG) (mi : MI) (n0 n1 : Nat) (r : Option Value) (σ1 : SS) : KK :=
  (mrm mi (n1 - n0) (szs n1 - szs n0), n0, fun _ _ meth => meth.sig.returnType = mi.2.2.2.1 ∧ meth.name = mi.1.name, fun s args below => MQ below (Qo G r n1 σ1) args s (n1 - n0) (szs n1 - szs n0) (A0 G))
/-- the machine's words that a method has in every state -/
def MC (G : GG) (own : String) (cc : ByteArray) (nL : Nat) (p : Program) (s : State) (m : MethodId) (args : Array Value) (meth : Method) (c : Code) : Prop :=
  p.tables.exec = Jvm.exec ∧ c.code = cc ∧ c.maxLocals = nL ∧ s.vm.findClass own = some m.cls ∧ (∀ w ∈ gtbl, w.before args s = true) ∧ Kl G s ∧ meth.locks = false ∧ G.2.2.2 ≤ s.heap.size
/-- locals: what is known of each place -/
def lvl : Nat → List (Option Value) → List (Nat × Value)
  | _, [] => []
  | i, none :: r => lvl (i + 1) r
  | i, some v :: r => (i, v) :: lvl (i + 1) r
def lget : List (Option Value) → Nat → Option Value
  | [], _ => none
  | a :: _, 0 => a
  | _ :: r, k + 1 => lget r k
def lst : List (Option Value) → Nat → Option Value → List (Option Value)
  | [], _, _ => []
  | _ :: r, 0, v => v :: r
  | a :: r, k + 1, v => a :: lst r k v
def lcl : Option Value → Option Value
  | some (.long _) => none
  | some (.double _) => none
  | v => v
def lclr (ls : List (Option Value)) : Nat → List (Option Value)
  | 0 => ls
  | k + 1 => lst ls k (lcl (lget ls k))
def lset1 (ls : List (Option Value)) (k : Nat) (v : Value) : List (Option Value) := lst (lclr ls k) k (some v)
def lset2 (ls : List (Option Value)) (k : Nat) (v : Value) : List (Option Value) := lst (lst (lclr ls k) k (some v)) (k + 1) none
def P (G : GG) (own : String) (cc : ByteArray) (nL : Nat) (K : KK) (pc : Nat) (ls : List (Option Value)) (st : List Value) (n : Nat) (σ : SS) : Prop :=
  ∀ (p : Program) (e : Env) (s : State) (m : MethodId) (args : Array Value) (below : List Frame) (meth : Method) (c : Code), MC G own cc nL p s m args meth c → K.2.2.1 s args meth →
  ∀ (H : Heap) (locs : List Loc) (lsA : Array Slot), Hp G n σ H → va_S (A0 G) s.heap H locs → lv_has lsA nL (lvl 0 ls) → K.2.1 ≤ n → szs K.2.1 ≤ szs n →
  W p G.1 e K.1 s m args below meth c H locs (n - K.2.1) (szs n - szs K.2.1) (K.2.2.2 s args below) (F0 m pc lsA st)
theorem lvl_mem : ∀ (ls : List (Option Value)) (i k : Nat) (v : Value), lget ls k = some v → (i + k, v) ∈ lvl i ls
  | [], _, _, _, h => by simp [lget] at h
  | a :: r, i, 0, v, h => by
    simp only [lget] at h
    subst h
    simp [lvl]
  | none :: r, i, k + 1, v, h => by
    have := lvl_mem r (i + 1) k v (by simpa [lget] using h)
    simp only [lvl]
    rwa [show i + (k + 1) = i + 1 + k by omega]
  | some w :: r, i, k + 1, v, h => by
    have := lvl_mem r (i + 1) k v (by simpa [lget] using h)
    simp only [lvl]
    rw [show i + (k + 1) = i + 1 + k by omega]
    exact List.mem_cons_of_mem _ this
theorem lvl_inv : ∀ (ls : List (Option Value)) (i : Nat) (q : Nat × Value), q ∈ lvl i ls → ∃ k, q.1 = i + k ∧ lget ls k = some q.2
  | [], _, _, h => by simp [lvl] at h
  | none :: r, i, q, h => by
    obtain ⟨k, h1, h2⟩ := lvl_inv r (i + 1) q (by simpa [lvl] using h)
    exact ⟨k + 1, by omega, by simpa [lget] using h2⟩
  | some w :: r, i, q, h => by
    simp only [lvl, List.mem_cons] at h
    rcases h with rfl | h
    · exact ⟨0, rfl, rfl⟩
    · obtain ⟨k, h1, h2⟩ := lvl_inv r (i + 1) q h
      exact ⟨k + 1, by omega, by simpa [lget] using h2⟩
theorem lget_lst : ∀ (ls : List (Option Value)) (k j : Nat) (v : Option Value), lget (lst ls k v) j = if j = k ∧ k < ls.length then v else lget ls j
  | [], k, j, v => by simp [lst, lget]
  | a :: r, 0, 0, v => by simp [lst, lget]
  | a :: r, 0, j + 1, v => by simp [lst, lget]
  | a :: r, k + 1, 0, v => by simp [lst, lget]
  | a :: r, k + 1, j + 1, v => by
    simp only [lst, lget, lget_lst r k j v, List.length_cons]
    by_cases h : j = k ∧ k < r.length
    · rw [if_pos h, if_pos (by omega)]
    · rw [if_neg h, if_neg (by omega)]
theorem lv_loc {lsA : Array Slot} {nL k : Nat} {ls : List (Option Value)} {v : Value} (h : lv_has lsA nL (lvl 0 ls)) (hk : lget ls k = some v) : lsA[k]? = some (.val v) := by
  have := lvl_mem ls 0 k v hk
  rw [Nat.zero_add] at this
  exact h.2.2 _ this
theorem lget_lclr {ls : List (Option Value)} {k j : Nat} {v : Value} (h : lget (lclr ls k) j = some v) : lget ls j = some v ∧ ¬ (j + 1 = k ∧ v.category = 2) := by
  cases k with
  | zero => exact ⟨h, fun q => by omega⟩
  | succ k =>
    simp only [lclr, lget_lst] at h
    split at h
    · next hc =>
      obtain ⟨rfl, -⟩ := hc
      cases hg : lget ls j with
      | none => rw [hg] at h; simp [lcl] at h
      | some w =>
        rw [hg] at h
        cases w <;> simp [lcl] at h <;> subst h <;> simp [Value.category]
    · next hc =>
      refine ⟨h, fun q => hc ⟨by omega, ?_⟩⟩
      obtain ⟨q1, -⟩ := q
      have hj : j = k := by omega
      subst hj
      have : ∀ (ls : List (Option Value)) (j : Nat), lget ls j = some v → j < ls.length := by
        intro ls
        induction ls with
        | nil => intro j h; simp [lget] at h
        | cons a r ih =>
          intro j h
          cases j with
          | zero => simp
          | succ j => have := ih j (by simpa [lget] using h); simp only [List.length_cons]; omega
      exact this ls j h
theorem lset1_has {lsA : Array Slot} {nL k : Nat} {ls : List (Option Value)} {v : Value} {l' : List (Nat × Value)} (hf : (k, v) :: (lvl 0 ls).filter (fun q => !(q.1 == k) && !(q.1 + 1 == k && q.2.category == 2)) = l') (h : lv_has lsA nL l') : lv_has lsA nL (lvl 0 (lset1 ls k v)) := by
  refine ⟨h.1, h.2.1, fun q hq => h.2.2 q ?_⟩
  obtain ⟨j, h1, h2⟩ := lvl_inv _ _ _ hq
  rw [Nat.zero_add] at h1
  obtain ⟨q1, q2⟩ := q
  dsimp only at h1 h2
  subst h1
  rw [← hf]
  simp only [lset1, lget_lst] at h2
  split at h2
  · next hc =>
    obtain ⟨rfl, -⟩ := hc
    cases h2
    exact List.mem_cons_self
  · next hc =>
    obtain ⟨h3, h4⟩ := lget_lclr h2
    by_cases hk : q1 = k
    · subst hk
      exfalso
      apply hc
      refine ⟨rfl, ?_⟩
      have : ∀ (ls : List (Option Value)) (j : Nat) (w : Value), lget ls j = some w → j < ls.length := by
        intro ls
        induction ls with
        | nil => intro j w h; simp [lget] at h
        | cons a r ih =>
          intro j w h
          cases j with
          | zero => simp
          | succ j => have := ih j w (by simpa [lget] using h); simp only [List.length_cons]; omega
      exact this _ _ _ h2
    · refine List.mem_cons_of_mem _ (List.mem_filter.mpr ⟨?_, ?_⟩)
      · have := lvl_mem ls 0 q1 q2 h3
        rwa [Nat.zero_add] at this
      · simp only [Bool.and_eq_true, Bool.not_eq_true', beq_eq_false_iff_ne, ne_eq, Bool.and_eq_false_iff]
        refine ⟨hk, ?_⟩
        by_cases z : q1 + 1 = k
        · exact Or.inr fun y => h4 ⟨z, y⟩
        · exact Or.inl z
theorem lset2_has {lsA : Array Slot} {nL k : Nat} {ls : List (Option Value)} {v : Value} {l' : List (Nat × Value)} (hf : (k, v) :: (lvl 0 ls).filter (fun q => !(q.1 == k) && (!(q.1 == k + 1) && !(q.1 + 1 == k && q.2.category == 2))) = l') (h : lv_has lsA nL l') (hn : k + 1 < ls.length) : lv_has lsA nL (lvl 0 (lset2 ls k v)) := by
  have hlen : ∀ (ls : List (Option Value)) (j : Nat) (v : Option Value), (lst ls j v).length = ls.length := by
    intro ls
    induction ls with
    | nil => intro j v; rfl
    | cons a r ih => intro j v; cases j with
      | zero => rfl
      | succ j => simp only [lst, List.length_cons, ih]
  have hl2 : (lclr ls k).length = ls.length := by
    cases k with
    | zero => rfl
    | succ k => exact hlen _ _ _
  refine ⟨h.1, h.2.1, fun q hq => h.2.2 q ?_⟩
  obtain ⟨j, h1, h2⟩ := lvl_inv _ _ _ hq
  rw [Nat.zero_add] at h1
  obtain ⟨q1, q2⟩ := q
  dsimp only at h1 h2
  subst h1
  rw [← hf]
  simp only [lset2, lget_lst] at h2
  split at h2
  · cases h2
  · next hc =>
    split at h2
    · next hc2 =>
      obtain ⟨rfl, -⟩ := hc2
      cases h2
      exact List.mem_cons_self
    · next hc2 =>
      obtain ⟨h3, h4⟩ := lget_lclr h2
      have hk : q1 ≠ k := fun z => hc2 ⟨z, by omega⟩
      have hk1 : q1 ≠ k + 1 := fun z => hc ⟨z, by rw [hlen]; omega⟩
      refine List.mem_cons_of_mem _ (List.mem_filter.mpr ⟨?_, ?_⟩)
      · have := lvl_mem ls 0 q1 q2 h3
        rwa [Nat.zero_add] at this
      · simp only [Bool.and_eq_true, Bool.not_eq_true', beq_eq_false_iff_ne, ne_eq, Bool.and_eq_false_iff]
        refine ⟨hk, hk1, ?_⟩
        by_cases z : q1 + 1 = k
        · exact Or.inr fun y => h4 ⟨z, y⟩
        · exact Or.inl z
end
section
-- the rows of the judgement P, by program (wip/whole/gen07.py): what touches the frame alone
theorem P.iconst {G : GG} {own : String} {cc : ByteArray} {nL : Nat} {K : KK} {pc : Nat} {ls : List (Option Value)} {st : List Value} {n : Nat} {σ : SS} {i : Int} {v : Int32} (hd : decode cc pc = .ok (.iconst i, 1)) (hv : Int32.ofInt i = v) (k : P G own cc nL K (pc + 1) ls (.int v :: st) n σ) : P G own cc nL K pc ls st n σ := fun p e s m args below meth c hM hX H locs lsA hH hS hl h1 h2 => lv_iconst hM.1 hM.2.1 hd hv (k p e s m args below meth c hM hX H locs lsA hH hS hl h1 h2)
theorem P.bipush {G : GG} {own : String} {cc : ByteArray} {nL : Nat} {K : KK} {pc : Nat} {ls : List (Option Value)} {st : List Value} {n : Nat} {σ : SS} {i : Int} {v : Int32} (hd : decode cc pc = .ok (.bipush i, 2)) (hv : (Int8.ofInt i).toInt32 = v) (k : P G own cc nL K (pc + 2) ls (.int v :: st) n σ) : P G own cc nL K pc ls st n σ := fun p e s m args below meth c hM hX H locs lsA hH hS hl h1 h2 => lv_bipush hM.1 hM.2.1 hd hv (k p e s m args below meth c hM hX H locs lsA hH hS hl h1 h2)
theorem P.sipush {G : GG} {own : String} {cc : ByteArray} {nL : Nat} {K : KK} {pc : Nat} {ls : List (Option Value)} {st : List Value} {n : Nat} {σ : SS} {i : Int} {v : Int32} (hd : decode cc pc = .ok (.sipush i, 3)) (hv : (Int16.ofInt i).toInt32 = v) (k : P G own cc nL K (pc + 3) ls (.int v :: st) n σ) : P G own cc nL K pc ls st n σ := fun p e s m args below meth c hM hX H locs lsA hH hS hl h1 h2 => lv_sipush hM.1 hM.2.1 hd hv (k p e s m args below meth c hM hX H locs lsA hH hS hl h1 h2)
theorem P.lconst {G : GG} {own : String} {cc : ByteArray} {nL : Nat} {K : KK} {pc : Nat} {ls : List (Option Value)} {st : List Value} {n : Nat} {σ : SS} {i : Fin 2} {v : Int64} (hd : decode cc pc = .ok (.lconst i, 1)) (hv : Int64.ofNat (i : Nat) = v) (k : P G own cc nL K (pc + 1) ls (.long v :: st) n σ) : P G own cc nL K pc ls st n σ := fun p e s m args below meth c hM hX H locs lsA hH hS hl h1 h2 => lv_lconst hM.1 hM.2.1 hd hv (k p e s m args below meth c hM hX H locs lsA hH hS hl h1 h2)
theorem P.iload_n {G : GG} {own : String} {cc : ByteArray} {nL : Nat} {K : KK} {pc : Nat} {ls : List (Option Value)} {st : List Value} {n : Nat} {σ : SS} {f : Fin 4} {i : Nat} {x : Int32} (hd : decode cc pc = .ok (.iload_n f, 1)) (hi : (f : Nat) = i) (hg : lget ls i = some (.int x)) (k : P G own cc nL K (pc + 1) ls (.int x :: st) n σ) : P G own cc nL K pc ls st n σ := fun p e s m args below meth c hM hX H locs lsA hH hS hl h1 h2 => lv_iload_n hM.1 hM.2.1 hd hi (lv_loc hl hg) (k p e s m args below meth c hM hX H locs lsA hH hS hl h1 h2)
theorem P.iload {G : GG} {own : String} {cc : ByteArray} {nL : Nat} {K : KK} {pc : Nat} {ls : List (Option Value)} {st : List Value} {n : Nat} {σ : SS} {i : Nat} {x : Int32} (hd : decode cc pc = .ok (.iload i, 2)) (hg : lget ls i = some (.int x)) (k : P G own cc nL K (pc + 2) ls (.int x :: st) n σ) : P G own cc nL K pc ls st n σ := fun p e s m args below meth c hM hX H locs lsA hH hS hl h1 h2 => lv_iload hM.1 hM.2.1 hd (lv_loc hl hg) (k p e s m args below meth c hM hX H locs lsA hH hS hl h1 h2)
theorem P.istore_n {G : GG} {own : String} {cc : ByteArray} {nL : Nat} {K : KK} {pc : Nat} {ls : List (Option Value)} {st : List Value} {n : Nat} {σ : SS} {f : Fin 4} {i : Nat} {x : Int32} (hd : decode cc pc = .ok (.istore_n f, 1)) (hi : (f : Nat) = i) (hn : i < nL) (k : P G own cc nL K (pc + 1) (lset1 ls i (.int x)) st n σ) : P G own cc nL K pc ls (.int x :: st) n σ := fun p e s m args below meth c hM hX H locs lsA hH hS hl h1 h2 => lv_istore_n hM.1 hM.2.1 hd hi hl hn rfl (fun ls2 h => k p e s m args below meth c hM hX H locs ls2 hH hS (lset1_has rfl h) h1 h2)
theorem P.istore {G : GG} {own : String} {cc : ByteArray} {nL : Nat} {K : KK} {pc : Nat} {ls : List (Option Value)} {st : List Value} {n : Nat} {σ : SS} {i : Nat} {x : Int32} (hd : decode cc pc = .ok (.istore i, 2)) (hn : i < nL) (k : P G own cc nL K (pc + 2) (lset1 ls i (.int x)) st n σ) : P G own cc nL K pc ls (.int x :: st) n σ := fun p e s m args below meth c hM hX H locs lsA hH hS hl h1 h2 => lv_istore hM.1 hM.2.1 hd hl hn rfl (fun ls2 h => k p e s m args below meth c hM hX H locs ls2 hH hS (lset1_has rfl h) h1 h2)
theorem P.lload_n {G : GG} {own : String} {cc : ByteArray} {nL : Nat} {K : KK} {pc : Nat} {ls : List (Option Value)} {st : List Value} {n : Nat} {σ : SS} {f : Fin 4} {i : Nat} {x : Int64} (hd : decode cc pc = .ok (.lload_n f, 1)) (hi : (f : Nat) = i) (hg : lget ls i = some (.long x)) (k : P G own cc nL K (pc + 1) ls (.long x :: st) n σ) : P G own cc nL K pc ls st n σ := fun p e s m args below meth c hM hX H locs lsA hH hS hl h1 h2 => lv_lload_n hM.1 hM.2.1 hd hi (lv_loc hl hg) (k p e s m args below meth c hM hX H locs lsA hH hS hl h1 h2)
theorem P.lload {G : GG} {own : String} {cc : ByteArray} {nL : Nat} {K : KK} {pc : Nat} {ls : List (Option Value)} {st : List Value} {n : Nat} {σ : SS} {i : Nat} {x : Int64} (hd : decode cc pc = .ok (.lload i, 2)) (hg : lget ls i = some (.long x)) (k : P G own cc nL K (pc + 2) ls (.long x :: st) n σ) : P G own cc nL K pc ls st n σ := fun p e s m args below meth c hM hX H locs lsA hH hS hl h1 h2 => lv_lload hM.1 hM.2.1 hd (lv_loc hl hg) (k p e s m args below meth c hM hX H locs lsA hH hS hl h1 h2)
theorem P.lstore_n {G : GG} {own : String} {cc : ByteArray} {nL : Nat} {K : KK} {pc : Nat} {ls : List (Option Value)} {st : List Value} {n : Nat} {σ : SS} {f : Fin 4} {i : Nat} {x : Int64} (hd : decode cc pc = .ok (.lstore_n f, 1)) (hi : (f : Nat) = i) (hn : i + 1 < nL) (hll : i + 1 < ls.length) (k : P G own cc nL K (pc + 1) (lset2 ls i (.long x)) st n σ) : P G own cc nL K pc ls (.long x :: st) n σ := fun p e s m args below meth c hM hX H locs lsA hH hS hl h1 h2 => lv_lstore_n hM.1 hM.2.1 hd hi hl hn rfl (fun ls2 h => k p e s m args below meth c hM hX H locs ls2 hH hS (lset2_has rfl h hll) h1 h2)
theorem P.lstore {G : GG} {own : String} {cc : ByteArray} {nL : Nat} {K : KK} {pc : Nat} {ls : List (Option Value)} {st : List Value} {n : Nat} {σ : SS} {i : Nat} {x : Int64} (hd : decode cc pc = .ok (.lstore i, 2)) (hn : i + 1 < nL) (hll : i + 1 < ls.length) (k : P G own cc nL K (pc + 2) (lset2 ls i (.long x)) st n σ) : P G own cc nL K pc ls (.long x :: st) n σ := fun p e s m args below meth c hM hX H locs lsA hH hS hl h1 h2 => lv_lstore hM.1 hM.2.1 hd hl hn rfl (fun ls2 h => k p e s m args below meth c hM hX H locs ls2 hH hS (lset2_has rfl h hll) h1 h2)
theorem P.aload_n {G : GG} {own : String} {cc : ByteArray} {nL : Nat} {K : KK} {pc : Nat} {ls : List (Option Value)} {st : List Value} {n : Nat} {σ : SS} {f : Fin 4} {i : Nat} {x : Nat} (hd : decode cc pc = .ok (.aload_n f, 1)) (hi : (f : Nat) = i) (hg : lget ls i = some (.ref x)) (k : P G own cc nL K (pc + 1) ls (.ref x :: st) n σ) : P G own cc nL K pc ls st n σ := fun p e s m args below meth c hM hX H locs lsA hH hS hl h1 h2 => lv_aload_n hM.1 hM.2.1 hd hi (lv_loc hl hg) (k p e s m args below meth c hM hX H locs lsA hH hS hl h1 h2)
theorem P.aload {G : GG} {own : String} {cc : ByteArray} {nL : Nat} {K : KK} {pc : Nat} {ls : List (Option Value)} {st : List Value} {n : Nat} {σ : SS} {i : Nat} {x : Nat} (hd : decode cc pc = .ok (.aload i, 2)) (hg : lget ls i = some (.ref x)) (k : P G own cc nL K (pc + 2) ls (.ref x :: st) n σ) : P G own cc nL K pc ls st n σ := fun p e s m args below meth c hM hX H locs lsA hH hS hl h1 h2 => lv_aload hM.1 hM.2.1 hd (lv_loc hl hg) (k p e s m args below meth c hM hX H locs lsA hH hS hl h1 h2)
theorem P.astore_n {G : GG} {own : String} {cc : ByteArray} {nL : Nat} {K : KK} {pc : Nat} {ls : List (Option Value)} {st : List Value} {n : Nat} {σ : SS} {f : Fin 4} {i : Nat} {x : Nat} (hd : decode cc pc = .ok (.astore_n f, 1)) (hi : (f : Nat) = i) (hn : i < nL) (k : P G own cc nL K (pc + 1) (lset1 ls i (.ref x)) st n σ) : P G own cc nL K pc ls (.ref x :: st) n σ := fun p e s m args below meth c hM hX H locs lsA hH hS hl h1 h2 => lv_astore_n hM.1 hM.2.1 hd hi hl hn rfl (fun ls2 h => k p e s m args below meth c hM hX H locs ls2 hH hS (lset1_has rfl h) h1 h2)
theorem P.astore {G : GG} {own : String} {cc : ByteArray} {nL : Nat} {K : KK} {pc : Nat} {ls : List (Option Value)} {st : List Value} {n : Nat} {σ : SS} {i : Nat} {x : Nat} (hd : decode cc pc = .ok (.astore i, 2)) (hn : i < nL) (k : P G own cc nL K (pc + 2) (lset1 ls i (.ref x)) st n σ) : P G own cc nL K pc ls (.ref x :: st) n σ := fun p e s m args below meth c hM hX H locs lsA hH hS hl h1 h2 => lv_astore hM.1 hM.2.1 hd hl hn rfl (fun ls2 h => k p e s m args below meth c hM hX H locs ls2 hH hS (lset1_has rfl h) h1 h2)
theorem lvl_at {ls : List (Option Value)} {i : Nat} {v : Value} (h : lget ls i = some v) : ∃ k : Nat, (lvl 0 ls)[k]? = some (i, v) := by
  have := lvl_mem ls 0 i v h
  rw [Nat.zero_add] at this
  exact List.getElem?_of_mem this
theorem P.iinc {G : GG} {own : String} {cc : ByteArray} {nL : Nat} {K : KK} {pc : Nat} {ls : List (Option Value)} {st : List Value} {n : Nat} {σ : SS} {i : Nat} {d : Int} {x v : Int32} (hd : decode cc pc = .ok (.iinc i d, 3)) (hg : lget ls i = some (.int x)) (hv : x + Int32.ofInt d = v) (hn : i < nL) (k : P G own cc nL K (pc + 3) (lset1 ls i (.int v)) st n σ) : P G own cc nL K pc ls st n σ := fun p e s m args below meth c hM hX H locs lsA hH hS hl h1 h2 => by
  obtain ⟨q, hq⟩ := lvl_at hg
  exact lv_iinc hM.1 hM.2.1 hd hl hq hv hn rfl (fun ls2 h => k p e s m args below meth c hM hX H locs ls2 hH hS (lset1_has rfl h) h1 h2)
theorem P.iadd {G : GG} {own : String} {cc : ByteArray} {nL : Nat} {K : KK} {pc : Nat} {ls : List (Option Value)} {st : List Value} {n : Nat} {σ : SS} {x y : Int32} (hd : decode cc pc = .ok (.iadd, 1))  (k : P G own cc nL K (pc + 1) ls (.int (x + y) :: st) n σ) : P G own cc nL K pc ls (.int y :: .int x :: st) n σ := fun p e s m args below meth c hM hX H locs lsA hH hS hl h1 h2 => lv_iadd hM.1 hM.2.1 hd (k p e s m args below meth c hM hX H locs lsA hH hS hl h1 h2)
theorem P.iadd_n {G : GG} {own : String} {cc : ByteArray} {nL : Nat} {K : KK} {pc : Nat} {ls : List (Option Value)} {st : List Value} {n : Nat} {σ : SS} {x y v : Int32} (hd : decode cc pc = .ok (.iadd, 1))  (hv : x + y = v) (k : P G own cc nL K (pc + 1) ls (.int v :: st) n σ) : P G own cc nL K pc ls (.int y :: .int x :: st) n σ := fun p e s m args below meth c hM hX H locs lsA hH hS hl h1 h2 => lv_iadd hM.1 hM.2.1 hd (hv ▸ k p e s m args below meth c hM hX H locs lsA hH hS hl h1 h2)
theorem P.isub {G : GG} {own : String} {cc : ByteArray} {nL : Nat} {K : KK} {pc : Nat} {ls : List (Option Value)} {st : List Value} {n : Nat} {σ : SS} {x y : Int32} (hd : decode cc pc = .ok (.isub, 1))  (k : P G own cc nL K (pc + 1) ls (.int (x - y) :: st) n σ) : P G own cc nL K pc ls (.int y :: .int x :: st) n σ := fun p e s m args below meth c hM hX H locs lsA hH hS hl h1 h2 => lv_isub hM.1 hM.2.1 hd (k p e s m args below meth c hM hX H locs lsA hH hS hl h1 h2)
theorem P.isub_n {G : GG} {own : String} {cc : ByteArray} {nL : Nat} {K : KK} {pc : Nat} {ls : List (Option Value)} {st : List Value} {n : Nat} {σ : SS} {x y v : Int32} (hd : decode cc pc = .ok (.isub, 1))  (hv : x - y = v) (k : P G own cc nL K (pc + 1) ls (.int v :: st) n σ) : P G own cc nL K pc ls (.int y :: .int x :: st) n σ := fun p e s m args below meth c hM hX H locs lsA hH hS hl h1 h2 => lv_isub hM.1 hM.2.1 hd (hv ▸ k p e s m args below meth c hM hX H locs lsA hH hS hl h1 h2)
theorem P.imul {G : GG} {own : String} {cc : ByteArray} {nL : Nat} {K : KK} {pc : Nat} {ls : List (Option Value)} {st : List Value} {n : Nat} {σ : SS} {x y : Int32} (hd : decode cc pc = .ok (.imul, 1))  (k : P G own cc nL K (pc + 1) ls (.int (x * y) :: st) n σ) : P G own cc nL K pc ls (.int y :: .int x :: st) n σ := fun p e s m args below meth c hM hX H locs lsA hH hS hl h1 h2 => lv_imul hM.1 hM.2.1 hd (k p e s m args below meth c hM hX H locs lsA hH hS hl h1 h2)
theorem P.imul_n {G : GG} {own : String} {cc : ByteArray} {nL : Nat} {K : KK} {pc : Nat} {ls : List (Option Value)} {st : List Value} {n : Nat} {σ : SS} {x y v : Int32} (hd : decode cc pc = .ok (.imul, 1))  (hv : x * y = v) (k : P G own cc nL K (pc + 1) ls (.int v :: st) n σ) : P G own cc nL K pc ls (.int y :: .int x :: st) n σ := fun p e s m args below meth c hM hX H locs lsA hH hS hl h1 h2 => lv_imul hM.1 hM.2.1 hd (hv ▸ k p e s m args below meth c hM hX H locs lsA hH hS hl h1 h2)
theorem P.idiv {G : GG} {own : String} {cc : ByteArray} {nL : Nat} {K : KK} {pc : Nat} {ls : List (Option Value)} {st : List Value} {n : Nat} {σ : SS} {x y : Int32} (hd : decode cc pc = .ok (.idiv, 1)) (hne : ¬ y = 0) (k : P G own cc nL K (pc + 1) ls (.int (x / y) :: st) n σ) : P G own cc nL K pc ls (.int y :: .int x :: st) n σ := fun p e s m args below meth c hM hX H locs lsA hH hS hl h1 h2 => lv_idiv hM.1 hM.2.1 hd hne (k p e s m args below meth c hM hX H locs lsA hH hS hl h1 h2)
theorem P.idiv_n {G : GG} {own : String} {cc : ByteArray} {nL : Nat} {K : KK} {pc : Nat} {ls : List (Option Value)} {st : List Value} {n : Nat} {σ : SS} {x y v : Int32} (hd : decode cc pc = .ok (.idiv, 1)) (hne : ¬ y = 0) (hv : x / y = v) (k : P G own cc nL K (pc + 1) ls (.int v :: st) n σ) : P G own cc nL K pc ls (.int y :: .int x :: st) n σ := fun p e s m args below meth c hM hX H locs lsA hH hS hl h1 h2 => lv_idiv hM.1 hM.2.1 hd hne (hv ▸ k p e s m args below meth c hM hX H locs lsA hH hS hl h1 h2)
theorem P.irem {G : GG} {own : String} {cc : ByteArray} {nL : Nat} {K : KK} {pc : Nat} {ls : List (Option Value)} {st : List Value} {n : Nat} {σ : SS} {x y : Int32} (hd : decode cc pc = .ok (.irem, 1)) (hne : ¬ y = 0) (k : P G own cc nL K (pc + 1) ls (.int (x - x / y * y) :: st) n σ) : P G own cc nL K pc ls (.int y :: .int x :: st) n σ := fun p e s m args below meth c hM hX H locs lsA hH hS hl h1 h2 => lv_irem hM.1 hM.2.1 hd hne (k p e s m args below meth c hM hX H locs lsA hH hS hl h1 h2)
theorem P.irem_n {G : GG} {own : String} {cc : ByteArray} {nL : Nat} {K : KK} {pc : Nat} {ls : List (Option Value)} {st : List Value} {n : Nat} {σ : SS} {x y v : Int32} (hd : decode cc pc = .ok (.irem, 1)) (hne : ¬ y = 0) (hv : x - x / y * y = v) (k : P G own cc nL K (pc + 1) ls (.int v :: st) n σ) : P G own cc nL K pc ls (.int y :: .int x :: st) n σ := fun p e s m args below meth c hM hX H locs lsA hH hS hl h1 h2 => lv_irem hM.1 hM.2.1 hd hne (hv ▸ k p e s m args below meth c hM hX H locs lsA hH hS hl h1 h2)
theorem P.iand {G : GG} {own : String} {cc : ByteArray} {nL : Nat} {K : KK} {pc : Nat} {ls : List (Option Value)} {st : List Value} {n : Nat} {σ : SS} {x y : Int32} (hd : decode cc pc = .ok (.iand, 1))  (k : P G own cc nL K (pc + 1) ls (.int (x &&& y) :: st) n σ) : P G own cc nL K pc ls (.int y :: .int x :: st) n σ := fun p e s m args below meth c hM hX H locs lsA hH hS hl h1 h2 => lv_iand hM.1 hM.2.1 hd (k p e s m args below meth c hM hX H locs lsA hH hS hl h1 h2)
theorem P.iand_n {G : GG} {own : String} {cc : ByteArray} {nL : Nat} {K : KK} {pc : Nat} {ls : List (Option Value)} {st : List Value} {n : Nat} {σ : SS} {x y v : Int32} (hd : decode cc pc = .ok (.iand, 1))  (hv : x &&& y = v) (k : P G own cc nL K (pc + 1) ls (.int v :: st) n σ) : P G own cc nL K pc ls (.int y :: .int x :: st) n σ := fun p e s m args below meth c hM hX H locs lsA hH hS hl h1 h2 => lv_iand hM.1 hM.2.1 hd (hv ▸ k p e s m args below meth c hM hX H locs lsA hH hS hl h1 h2)
theorem P.ior {G : GG} {own : String} {cc : ByteArray} {nL : Nat} {K : KK} {pc : Nat} {ls : List (Option Value)} {st : List Value} {n : Nat} {σ : SS} {x y : Int32} (hd : decode cc pc = .ok (.ior, 1))  (k : P G own cc nL K (pc + 1) ls (.int (x ||| y) :: st) n σ) : P G own cc nL K pc ls (.int y :: .int x :: st) n σ := fun p e s m args below meth c hM hX H locs lsA hH hS hl h1 h2 => lv_ior hM.1 hM.2.1 hd (k p e s m args below meth c hM hX H locs lsA hH hS hl h1 h2)
theorem P.ior_n {G : GG} {own : String} {cc : ByteArray} {nL : Nat} {K : KK} {pc : Nat} {ls : List (Option Value)} {st : List Value} {n : Nat} {σ : SS} {x y v : Int32} (hd : decode cc pc = .ok (.ior, 1))  (hv : x ||| y = v) (k : P G own cc nL K (pc + 1) ls (.int v :: st) n σ) : P G own cc nL K pc ls (.int y :: .int x :: st) n σ := fun p e s m args below meth c hM hX H locs lsA hH hS hl h1 h2 => lv_ior hM.1 hM.2.1 hd (hv ▸ k p e s m args below meth c hM hX H locs lsA hH hS hl h1 h2)
theorem P.ixor {G : GG} {own : String} {cc : ByteArray} {nL : Nat} {K : KK} {pc : Nat} {ls : List (Option Value)} {st : List Value} {n : Nat} {σ : SS} {x y : Int32} (hd : decode cc pc = .ok (.ixor, 1))  (k : P G own cc nL K (pc + 1) ls (.int (x ^^^ y) :: st) n σ) : P G own cc nL K pc ls (.int y :: .int x :: st) n σ := fun p e s m args below meth c hM hX H locs lsA hH hS hl h1 h2 => lv_ixor hM.1 hM.2.1 hd (k p e s m args below meth c hM hX H locs lsA hH hS hl h1 h2)
theorem P.ixor_n {G : GG} {own : String} {cc : ByteArray} {nL : Nat} {K : KK} {pc : Nat} {ls : List (Option Value)} {st : List Value} {n : Nat} {σ : SS} {x y v : Int32} (hd : decode cc pc = .ok (.ixor, 1))  (hv : x ^^^ y = v) (k : P G own cc nL K (pc + 1) ls (.int v :: st) n σ) : P G own cc nL K pc ls (.int y :: .int x :: st) n σ := fun p e s m args below meth c hM hX H locs lsA hH hS hl h1 h2 => lv_ixor hM.1 hM.2.1 hd (hv ▸ k p e s m args below meth c hM hX H locs lsA hH hS hl h1 h2)
theorem P.ishl {G : GG} {own : String} {cc : ByteArray} {nL : Nat} {K : KK} {pc : Nat} {ls : List (Option Value)} {st : List Value} {n : Nat} {σ : SS} {x y v : Int32} (hd : decode cc pc = .ok (.ishl, 1)) (hv : x <<< (y &&& 31) = v) (k : P G own cc nL K (pc + 1) ls (.int v :: st) n σ) : P G own cc nL K pc ls (.int y :: .int x :: st) n σ := fun p e s m args below meth c hM hX H locs lsA hH hS hl h1 h2 => lv_ishl hM.1 hM.2.1 hd (hv ▸ k p e s m args below meth c hM hX H locs lsA hH hS hl h1 h2)
theorem P.ishr {G : GG} {own : String} {cc : ByteArray} {nL : Nat} {K : KK} {pc : Nat} {ls : List (Option Value)} {st : List Value} {n : Nat} {σ : SS} {x y v : Int32} (hd : decode cc pc = .ok (.ishr, 1)) (hv : x >>> (y &&& 31) = v) (k : P G own cc nL K (pc + 1) ls (.int v :: st) n σ) : P G own cc nL K pc ls (.int y :: .int x :: st) n σ := fun p e s m args below meth c hM hX H locs lsA hH hS hl h1 h2 => lv_ishr hM.1 hM.2.1 hd (hv ▸ k p e s m args below meth c hM hX H locs lsA hH hS hl h1 h2)
theorem P.ladd {G : GG} {own : String} {cc : ByteArray} {nL : Nat} {K : KK} {pc : Nat} {ls : List (Option Value)} {st : List Value} {n : Nat} {σ : SS} {x y : Int64} (hd : decode cc pc = .ok (.ladd, 1))  (k : P G own cc nL K (pc + 1) ls (.long (x + y) :: st) n σ) : P G own cc nL K pc ls (.long y :: .long x :: st) n σ := fun p e s m args below meth c hM hX H locs lsA hH hS hl h1 h2 => lv_ladd hM.1 hM.2.1 hd (k p e s m args below meth c hM hX H locs lsA hH hS hl h1 h2)
theorem P.lsub {G : GG} {own : String} {cc : ByteArray} {nL : Nat} {K : KK} {pc : Nat} {ls : List (Option Value)} {st : List Value} {n : Nat} {σ : SS} {x y : Int64} (hd : decode cc pc = .ok (.lsub, 1))  (k : P G own cc nL K (pc + 1) ls (.long (x - y) :: st) n σ) : P G own cc nL K pc ls (.long y :: .long x :: st) n σ := fun p e s m args below meth c hM hX H locs lsA hH hS hl h1 h2 => lv_lsub hM.1 hM.2.1 hd (k p e s m args below meth c hM hX H locs lsA hH hS hl h1 h2)
theorem P.lor {G : GG} {own : String} {cc : ByteArray} {nL : Nat} {K : KK} {pc : Nat} {ls : List (Option Value)} {st : List Value} {n : Nat} {σ : SS} {x y : Int64} (hd : decode cc pc = .ok (.lor, 1))  (k : P G own cc nL K (pc + 1) ls (.long (x ||| y) :: st) n σ) : P G own cc nL K pc ls (.long y :: .long x :: st) n σ := fun p e s m args below meth c hM hX H locs lsA hH hS hl h1 h2 => lv_lor hM.1 hM.2.1 hd (k p e s m args below meth c hM hX H locs lsA hH hS hl h1 h2)
theorem P.land {G : GG} {own : String} {cc : ByteArray} {nL : Nat} {K : KK} {pc : Nat} {ls : List (Option Value)} {st : List Value} {n : Nat} {σ : SS} {x y : Int64} (hd : decode cc pc = .ok (.land, 1))  (k : P G own cc nL K (pc + 1) ls (.long (x &&& y) :: st) n σ) : P G own cc nL K pc ls (.long y :: .long x :: st) n σ := fun p e s m args below meth c hM hX H locs lsA hH hS hl h1 h2 => lv_land hM.1 hM.2.1 hd (k p e s m args below meth c hM hX H locs lsA hH hS hl h1 h2)
theorem P.lshl {G : GG} {own : String} {cc : ByteArray} {nL : Nat} {K : KK} {pc : Nat} {ls : List (Option Value)} {st : List Value} {n : Nat} {σ : SS} {x v : Int64} {y : Int32} (hd : decode cc pc = .ok (.lshl, 1)) (hv : x <<< (y.toInt64 &&& 63) = v) (k : P G own cc nL K (pc + 1) ls (.long v :: st) n σ) : P G own cc nL K pc ls (.int y :: .long x :: st) n σ := fun p e s m args below meth c hM hX H locs lsA hH hS hl h1 h2 => lv_lshl hM.1 hM.2.1 hd hv (k p e s m args below meth c hM hX H locs lsA hH hS hl h1 h2)
theorem P.i2l {G : GG} {own : String} {cc : ByteArray} {nL : Nat} {K : KK} {pc : Nat} {ls : List (Option Value)} {st : List Value} {n : Nat} {σ : SS} {x : Int32} {v : Int64} (hd : decode cc pc = .ok (.i2l, 1)) (hv : x.toInt64 = v) (k : P G own cc nL K (pc + 1) ls (.long v :: st) n σ) : P G own cc nL K pc ls (.int x :: st) n σ := fun p e s m args below meth c hM hX H locs lsA hH hS hl h1 h2 => lv_i2l hM.1 hM.2.1 hd hv (k p e s m args below meth c hM hX H locs lsA hH hS hl h1 h2)
theorem P.l2i {G : GG} {own : String} {cc : ByteArray} {nL : Nat} {K : KK} {pc : Nat} {ls : List (Option Value)} {st : List Value} {n : Nat} {σ : SS} {x : Int64} (hd : decode cc pc = .ok (.l2i, 1))  (k : P G own cc nL K (pc + 1) ls (.int x.toInt32 :: st) n σ) : P G own cc nL K pc ls (.long x :: st) n σ := fun p e s m args below meth c hM hX H locs lsA hH hS hl h1 h2 => lv_l2i hM.1 hM.2.1 hd rfl (k p e s m args below meth c hM hX H locs lsA hH hS hl h1 h2)
theorem P.i2b {G : GG} {own : String} {cc : ByteArray} {nL : Nat} {K : KK} {pc : Nat} {ls : List (Option Value)} {st : List Value} {n : Nat} {σ : SS} {x : Int32} (hd : decode cc pc = .ok (.i2b, 1))  (k : P G own cc nL K (pc + 1) ls (.int x.toInt8.toInt32 :: st) n σ) : P G own cc nL K pc ls (.int x :: st) n σ := fun p e s m args below meth c hM hX H locs lsA hH hS hl h1 h2 => lv_i2b hM.1 hM.2.1 hd rfl (k p e s m args below meth c hM hX H locs lsA hH hS hl h1 h2)
theorem P.i2s {G : GG} {own : String} {cc : ByteArray} {nL : Nat} {K : KK} {pc : Nat} {ls : List (Option Value)} {st : List Value} {n : Nat} {σ : SS} {x : Int32} (hd : decode cc pc = .ok (.i2s, 1))  (k : P G own cc nL K (pc + 1) ls (.int x.toInt16.toInt32 :: st) n σ) : P G own cc nL K pc ls (.int x :: st) n σ := fun p e s m args below meth c hM hX H locs lsA hH hS hl h1 h2 => lv_i2s hM.1 hM.2.1 hd rfl (k p e s m args below meth c hM hX H locs lsA hH hS hl h1 h2)
theorem P.i2c {G : GG} {own : String} {cc : ByteArray} {nL : Nat} {K : KK} {pc : Nat} {ls : List (Option Value)} {st : List Value} {n : Nat} {σ : SS} {x : Int32} (hd : decode cc pc = .ok (.i2c, 1))  (k : P G own cc nL K (pc + 1) ls (.int (x.toUInt32 % 65536).toInt32 :: st) n σ) : P G own cc nL K pc ls (.int x :: st) n σ := fun p e s m args below meth c hM hX H locs lsA hH hS hl h1 h2 => lv_i2c hM.1 hM.2.1 hd rfl (k p e s m args below meth c hM hX H locs lsA hH hS hl h1 h2)
theorem P.l2d {G : GG} {own : String} {cc : ByteArray} {nL : Nat} {K : KK} {pc : Nat} {ls : List (Option Value)} {st : List Value} {n : Nat} {σ : SS} {x : Int64} (hd : decode cc pc = .ok (.l2d, 1))  (k : P G own cc nL K (pc + 1) ls (.double (FP.l2d x) :: st) n σ) : P G own cc nL K pc ls (.long x :: st) n σ := fun p e s m args below meth c hM hX H locs lsA hH hS hl h1 h2 => lv_l2d hM.1 hM.2.1 hd (k p e s m args below meth c hM hX H locs lsA hH hS hl h1 h2)
theorem P.d2l {G : GG} {own : String} {cc : ByteArray} {nL : Nat} {K : KK} {pc : Nat} {ls : List (Option Value)} {st : List Value} {n : Nat} {σ : SS} {x : UInt64} (hd : decode cc pc = .ok (.d2l, 1))  (k : P G own cc nL K (pc + 1) ls (.long (FP.d2l x) :: st) n σ) : P G own cc nL K pc ls (.double x :: st) n σ := fun p e s m args below meth c hM hX H locs lsA hH hS hl h1 h2 => lv_d2l hM.1 hM.2.1 hd (k p e s m args below meth c hM hX H locs lsA hH hS hl h1 h2)
theorem P.dup {G : GG} {own : String} {cc : ByteArray} {nL : Nat} {K : KK} {pc : Nat} {ls : List (Option Value)} {st : List Value} {n : Nat} {σ : SS} {v : Value} (hd : decode cc pc = .ok (.dup, 1)) (hv : v.category = 1) (k : P G own cc nL K (pc + 1) ls (v :: v :: st) n σ) : P G own cc nL K pc ls (v :: st) n σ := fun p e s m args below meth c hM hX H locs lsA hH hS hl h1 h2 => lv_dup hM.1 hM.2.1 hd hv (k p e s m args below meth c hM hX H locs lsA hH hS hl h1 h2)
theorem P.lcmp {G : GG} {own : String} {cc : ByteArray} {nL : Nat} {K : KK} {pc : Nat} {ls : List (Option Value)} {st : List Value} {n : Nat} {σ : SS} {x y : Int64} (hd : decode cc pc = .ok (.lcmp, 1))  (k : P G own cc nL K (pc + 1) ls (.int (lg_cmp x y) :: st) n σ) : P G own cc nL K pc ls (.long y :: .long x :: st) n σ := fun p e s m args below meth c hM hX H locs lsA hH hS hl h1 h2 => W.lcmp hM.1 hM.2.1 hd (k p e s m args below meth c hM hX H locs lsA hH hS hl h1 h2)
theorem P.ldc2 {G : GG} {own : String} {cc : ByteArray} {nL : Nat} {K : KK} {pc : Nat} {ls : List (Option Value)} {st : List Value} {n : Nat} {σ : SS} {i : Nat} {v : Int64} (hd : decode cc pc = .ok (.ldc2_w i, 3)) (hc : Cond.constantLong own i v ∈ lw_tbl) (k : P G own cc nL K (pc + 3) ls (.long v :: st) n σ) : P G own cc nL K pc ls st n σ := fun p e s m args below meth c hM hX H locs lsA hH hS hl h1 h2 => lv_ldc2 hM.1 hM.2.1 hM.2.2.2.1 (hM.2.2.2.2.1 _ (tog hc rfl)) hd (k p e s m args below meth c hM hX H locs lsA hH hS hl h1 h2)
theorem P.ldc {G : GG} {own : String} {cc : ByteArray} {nL : Nat} {K : KK} {pc : Nat} {ls : List (Option Value)} {st : List Value} {n : Nat} {σ : SS} {i : Nat} {v : Int32} (hd : decode cc pc = .ok (.ldc i, 2)) (hc : Cond.constant own i v ∈ lw_tbl) (k : P G own cc nL K (pc + 2) ls (.int v :: st) n σ) : P G own cc nL K pc ls st n σ := fun p e s m args below meth c hM hX H locs lsA hH hS hl h1 h2 => lv_ldc hM.1 hM.2.1 hM.2.2.2.1 (hM.2.2.2.2.1 _ (tog hc rfl)) hd (k p e s m args below meth c hM hX H locs lsA hH hS hl h1 h2)
theorem P.ldcw {G : GG} {own : String} {cc : ByteArray} {nL : Nat} {K : KK} {pc : Nat} {ls : List (Option Value)} {st : List Value} {n : Nat} {σ : SS} {i : Nat} {v : Int32} (hd : decode cc pc = .ok (.ldc_w i, 3)) (hc : Cond.constant own i v ∈ lw_tbl) (k : P G own cc nL K (pc + 3) ls (.int v :: st) n σ) : P G own cc nL K pc ls st n σ := fun p e s m args below meth c hM hX H locs lsA hH hS hl h1 h2 => lv_ldcw hM.1 hM.2.1 hM.2.2.2.1 (hM.2.2.2.2.1 _ (tog hc rfl)) hd (k p e s m args below meth c hM hX H locs lsA hH hS hl h1 h2)
theorem P.goto {G : GG} {own : String} {cc : ByteArray} {nL : Nat} {K : KK} {pc : Nat} {ls : List (Option Value)} {st : List Value} {n : Nat} {σ : SS} {off : Int} {tgt : Nat} (hd : decode cc pc = .ok (.goto off, 3)) (ht : (pc : Int) + off = (tgt : Int)) (k : P G own cc nL K tgt ls st n σ) : P G own cc nL K pc ls st n σ := fun p e s m args below meth c hM hX H locs lsA hH hS hl h1 h2 => lv_goto hM.1 hM.2.1 hd ht (k p e s m args below meth c hM hX H locs lsA hH hS hl h1 h2)
theorem P.icmp_eq {G : GG} {own : String} {cc : ByteArray} {nL : Nat} {K : KK} {pc : Nat} {ls : List (Option Value)} {st : List Value} {n : Nat} {σ : SS} {x y : Int32} {off : Int} {tgt : Nat} (hd : decode cc pc = .ok (.if_icmp .eq off, 3)) (ht : (pc : Int) + off = (tgt : Int)) (kt : x = y → P G own cc nL K tgt ls st n σ) (kf : ¬ x = y → P G own cc nL K (pc + 3) ls st n σ) : P G own cc nL K pc ls (.int y :: .int x :: st) n σ := fun p e s m args below meth c hM hX H locs lsA hH hS hl h1 h2 => lv_icmp_eq hM.1 hM.2.1 hd ht (fun hc => kt hc p e s m args below meth c hM hX H locs lsA hH hS hl h1 h2) (fun hc => kf hc p e s m args below meth c hM hX H locs lsA hH hS hl h1 h2)
theorem P.if_eq {G : GG} {own : String} {cc : ByteArray} {nL : Nat} {K : KK} {pc : Nat} {ls : List (Option Value)} {st : List Value} {n : Nat} {σ : SS} {x : Int32} {off : Int} {tgt : Nat} (hd : decode cc pc = .ok (.ifCond .eq off, 3)) (ht : (pc : Int) + off = (tgt : Int)) (kt : x = 0 → P G own cc nL K tgt ls st n σ) (kf : ¬ x = 0 → P G own cc nL K (pc + 3) ls st n σ) : P G own cc nL K pc ls (.int x :: st) n σ := fun p e s m args below meth c hM hX H locs lsA hH hS hl h1 h2 => lv_if_eq hM.1 hM.2.1 hd ht (fun hc => kt hc p e s m args below meth c hM hX H locs lsA hH hS hl h1 h2) (fun hc => kf hc p e s m args below meth c hM hX H locs lsA hH hS hl h1 h2)
theorem P.icmp_ne {G : GG} {own : String} {cc : ByteArray} {nL : Nat} {K : KK} {pc : Nat} {ls : List (Option Value)} {st : List Value} {n : Nat} {σ : SS} {x y : Int32} {off : Int} {tgt : Nat} (hd : decode cc pc = .ok (.if_icmp .ne off, 3)) (ht : (pc : Int) + off = (tgt : Int)) (kt : ¬ x = y → P G own cc nL K tgt ls st n σ) (kf : x = y → P G own cc nL K (pc + 3) ls st n σ) : P G own cc nL K pc ls (.int y :: .int x :: st) n σ := fun p e s m args below meth c hM hX H locs lsA hH hS hl h1 h2 => lv_icmp_ne hM.1 hM.2.1 hd ht (fun hc => kt hc p e s m args below meth c hM hX H locs lsA hH hS hl h1 h2) (fun hc => kf hc p e s m args below meth c hM hX H locs lsA hH hS hl h1 h2)
theorem P.if_ne {G : GG} {own : String} {cc : ByteArray} {nL : Nat} {K : KK} {pc : Nat} {ls : List (Option Value)} {st : List Value} {n : Nat} {σ : SS} {x : Int32} {off : Int} {tgt : Nat} (hd : decode cc pc = .ok (.ifCond .ne off, 3)) (ht : (pc : Int) + off = (tgt : Int)) (kt : ¬ x = 0 → P G own cc nL K tgt ls st n σ) (kf : x = 0 → P G own cc nL K (pc + 3) ls st n σ) : P G own cc nL K pc ls (.int x :: st) n σ := fun p e s m args below meth c hM hX H locs lsA hH hS hl h1 h2 => lv_if_ne hM.1 hM.2.1 hd ht (fun hc => kt hc p e s m args below meth c hM hX H locs lsA hH hS hl h1 h2) (fun hc => kf hc p e s m args below meth c hM hX H locs lsA hH hS hl h1 h2)
theorem P.icmp_lt {G : GG} {own : String} {cc : ByteArray} {nL : Nat} {K : KK} {pc : Nat} {ls : List (Option Value)} {st : List Value} {n : Nat} {σ : SS} {x y : Int32} {off : Int} {tgt : Nat} (hd : decode cc pc = .ok (.if_icmp .lt off, 3)) (ht : (pc : Int) + off = (tgt : Int)) (kt : x < y → P G own cc nL K tgt ls st n σ) (kf : ¬ x < y → P G own cc nL K (pc + 3) ls st n σ) : P G own cc nL K pc ls (.int y :: .int x :: st) n σ := fun p e s m args below meth c hM hX H locs lsA hH hS hl h1 h2 => lv_icmp_lt hM.1 hM.2.1 hd ht (fun hc => kt hc p e s m args below meth c hM hX H locs lsA hH hS hl h1 h2) (fun hc => kf hc p e s m args below meth c hM hX H locs lsA hH hS hl h1 h2)
theorem P.if_lt {G : GG} {own : String} {cc : ByteArray} {nL : Nat} {K : KK} {pc : Nat} {ls : List (Option Value)} {st : List Value} {n : Nat} {σ : SS} {x : Int32} {off : Int} {tgt : Nat} (hd : decode cc pc = .ok (.ifCond .lt off, 3)) (ht : (pc : Int) + off = (tgt : Int)) (kt : x < 0 → P G own cc nL K tgt ls st n σ) (kf : ¬ x < 0 → P G own cc nL K (pc + 3) ls st n σ) : P G own cc nL K pc ls (.int x :: st) n σ := fun p e s m args below meth c hM hX H locs lsA hH hS hl h1 h2 => lv_if_lt hM.1 hM.2.1 hd ht (fun hc => kt hc p e s m args below meth c hM hX H locs lsA hH hS hl h1 h2) (fun hc => kf hc p e s m args below meth c hM hX H locs lsA hH hS hl h1 h2)
theorem P.icmp_ge {G : GG} {own : String} {cc : ByteArray} {nL : Nat} {K : KK} {pc : Nat} {ls : List (Option Value)} {st : List Value} {n : Nat} {σ : SS} {x y : Int32} {off : Int} {tgt : Nat} (hd : decode cc pc = .ok (.if_icmp .ge off, 3)) (ht : (pc : Int) + off = (tgt : Int)) (kt : y ≤ x → P G own cc nL K tgt ls st n σ) (kf : ¬ y ≤ x → P G own cc nL K (pc + 3) ls st n σ) : P G own cc nL K pc ls (.int y :: .int x :: st) n σ := fun p e s m args below meth c hM hX H locs lsA hH hS hl h1 h2 => lv_icmp_ge hM.1 hM.2.1 hd ht (fun hc => kt hc p e s m args below meth c hM hX H locs lsA hH hS hl h1 h2) (fun hc => kf hc p e s m args below meth c hM hX H locs lsA hH hS hl h1 h2)
theorem P.if_ge {G : GG} {own : String} {cc : ByteArray} {nL : Nat} {K : KK} {pc : Nat} {ls : List (Option Value)} {st : List Value} {n : Nat} {σ : SS} {x : Int32} {off : Int} {tgt : Nat} (hd : decode cc pc = .ok (.ifCond .ge off, 3)) (ht : (pc : Int) + off = (tgt : Int)) (kt : 0 ≤ x → P G own cc nL K tgt ls st n σ) (kf : ¬ 0 ≤ x → P G own cc nL K (pc + 3) ls st n σ) : P G own cc nL K pc ls (.int x :: st) n σ := fun p e s m args below meth c hM hX H locs lsA hH hS hl h1 h2 => lv_if_ge hM.1 hM.2.1 hd ht (fun hc => kt hc p e s m args below meth c hM hX H locs lsA hH hS hl h1 h2) (fun hc => kf hc p e s m args below meth c hM hX H locs lsA hH hS hl h1 h2)
theorem P.icmp_gt {G : GG} {own : String} {cc : ByteArray} {nL : Nat} {K : KK} {pc : Nat} {ls : List (Option Value)} {st : List Value} {n : Nat} {σ : SS} {x y : Int32} {off : Int} {tgt : Nat} (hd : decode cc pc = .ok (.if_icmp .gt off, 3)) (ht : (pc : Int) + off = (tgt : Int)) (kt : y < x → P G own cc nL K tgt ls st n σ) (kf : ¬ y < x → P G own cc nL K (pc + 3) ls st n σ) : P G own cc nL K pc ls (.int y :: .int x :: st) n σ := fun p e s m args below meth c hM hX H locs lsA hH hS hl h1 h2 => lv_icmp_gt hM.1 hM.2.1 hd ht (fun hc => kt hc p e s m args below meth c hM hX H locs lsA hH hS hl h1 h2) (fun hc => kf hc p e s m args below meth c hM hX H locs lsA hH hS hl h1 h2)
theorem P.if_gt {G : GG} {own : String} {cc : ByteArray} {nL : Nat} {K : KK} {pc : Nat} {ls : List (Option Value)} {st : List Value} {n : Nat} {σ : SS} {x : Int32} {off : Int} {tgt : Nat} (hd : decode cc pc = .ok (.ifCond .gt off, 3)) (ht : (pc : Int) + off = (tgt : Int)) (kt : 0 < x → P G own cc nL K tgt ls st n σ) (kf : ¬ 0 < x → P G own cc nL K (pc + 3) ls st n σ) : P G own cc nL K pc ls (.int x :: st) n σ := fun p e s m args below meth c hM hX H locs lsA hH hS hl h1 h2 => lv_if_gt hM.1 hM.2.1 hd ht (fun hc => kt hc p e s m args below meth c hM hX H locs lsA hH hS hl h1 h2) (fun hc => kf hc p e s m args below meth c hM hX H locs lsA hH hS hl h1 h2)
theorem P.icmp_le {G : GG} {own : String} {cc : ByteArray} {nL : Nat} {K : KK} {pc : Nat} {ls : List (Option Value)} {st : List Value} {n : Nat} {σ : SS} {x y : Int32} {off : Int} {tgt : Nat} (hd : decode cc pc = .ok (.if_icmp .le off, 3)) (ht : (pc : Int) + off = (tgt : Int)) (kt : x ≤ y → P G own cc nL K tgt ls st n σ) (kf : ¬ x ≤ y → P G own cc nL K (pc + 3) ls st n σ) : P G own cc nL K pc ls (.int y :: .int x :: st) n σ := fun p e s m args below meth c hM hX H locs lsA hH hS hl h1 h2 => lv_icmp_le hM.1 hM.2.1 hd ht (fun hc => kt hc p e s m args below meth c hM hX H locs lsA hH hS hl h1 h2) (fun hc => kf hc p e s m args below meth c hM hX H locs lsA hH hS hl h1 h2)
theorem P.if_le {G : GG} {own : String} {cc : ByteArray} {nL : Nat} {K : KK} {pc : Nat} {ls : List (Option Value)} {st : List Value} {n : Nat} {σ : SS} {x : Int32} {off : Int} {tgt : Nat} (hd : decode cc pc = .ok (.ifCond .le off, 3)) (ht : (pc : Int) + off = (tgt : Int)) (kt : x ≤ 0 → P G own cc nL K tgt ls st n σ) (kf : ¬ x ≤ 0 → P G own cc nL K (pc + 3) ls st n σ) : P G own cc nL K pc ls (.int x :: st) n σ := fun p e s m args below meth c hM hX H locs lsA hH hS hl h1 h2 => lv_if_le hM.1 hM.2.1 hd ht (fun hc => kt hc p e s m args below meth c hM hX H locs lsA hH hS hl h1 h2) (fun hc => kf hc p e s m args below meth c hM hX H locs lsA hH hS hl h1 h2)
theorem nI_lt' {a b : Nat} (ha : a < 2147483648) (hb : b < 2147483648) : nI a < nI b ↔ a < b := nI_ltI ha hb
theorem nI_le' {a b : Nat} (ha : a < 2147483648) (hb : b < 2147483648) : nI a ≤ nI b ↔ a ≤ b := nI_leI ha hb
theorem nI_eq' {a b : Nat} (ha : a < 2147483648) (hb : b < 2147483648) : nI a = nI b ↔ a = b := nI_eq ha hb
theorem nI_z {a : Nat} (ha : a < 2147483648) : nI a = 0 ↔ a = 0 := nI_eq (b := 0) ha (by decide)
theorem P.icmp_eq_n {G : GG} {own : String} {cc : ByteArray} {nL : Nat} {K : KK} {pc : Nat} {ls : List (Option Value)} {st : List Value} {n : Nat} {σ : SS} {a b : Nat} {off : Int} {tgt : Nat} (hd : decode cc pc = .ok (.if_icmp .eq off, 3)) (ht : (pc : Int) + off = (tgt : Int)) (ha : a < 2147483648) (hb : b < 2147483648) (kt : a = b → P G own cc nL K tgt ls st n σ) (kf : a ≠ b → P G own cc nL K (pc + 3) ls st n σ) : P G own cc nL K pc ls (.int (nI b) :: .int (nI a) :: st) n σ := by
  refine P.icmp_eq hd ht (fun hc => kt ?_) (fun hc => kf ?_) <;> simp only [gt_iff_lt, ge_iff_le, nI_lt' ha hb, nI_le' ha hb, nI_eq' ha hb, nI_lt' hb ha, nI_le' hb ha] at hc <;> first | exact hc | omega
theorem P.icmp_ne_n {G : GG} {own : String} {cc : ByteArray} {nL : Nat} {K : KK} {pc : Nat} {ls : List (Option Value)} {st : List Value} {n : Nat} {σ : SS} {a b : Nat} {off : Int} {tgt : Nat} (hd : decode cc pc = .ok (.if_icmp .ne off, 3)) (ht : (pc : Int) + off = (tgt : Int)) (ha : a < 2147483648) (hb : b < 2147483648) (kt : a ≠ b → P G own cc nL K tgt ls st n σ) (kf : a = b → P G own cc nL K (pc + 3) ls st n σ) : P G own cc nL K pc ls (.int (nI b) :: .int (nI a) :: st) n σ := by
  refine P.icmp_ne hd ht (fun hc => kt ?_) (fun hc => kf ?_) <;> simp only [gt_iff_lt, ge_iff_le, nI_lt' ha hb, nI_le' ha hb, nI_eq' ha hb, nI_lt' hb ha, nI_le' hb ha] at hc <;> first | exact hc | omega
theorem P.icmp_lt_n {G : GG} {own : String} {cc : ByteArray} {nL : Nat} {K : KK} {pc : Nat} {ls : List (Option Value)} {st : List Value} {n : Nat} {σ : SS} {a b : Nat} {off : Int} {tgt : Nat} (hd : decode cc pc = .ok (.if_icmp .lt off, 3)) (ht : (pc : Int) + off = (tgt : Int)) (ha : a < 2147483648) (hb : b < 2147483648) (kt : a < b → P G own cc nL K tgt ls st n σ) (kf : b ≤ a → P G own cc nL K (pc + 3) ls st n σ) : P G own cc nL K pc ls (.int (nI b) :: .int (nI a) :: st) n σ := by
  refine P.icmp_lt hd ht (fun hc => kt ?_) (fun hc => kf ?_) <;> simp only [gt_iff_lt, ge_iff_le, nI_lt' ha hb, nI_le' ha hb, nI_eq' ha hb, nI_lt' hb ha, nI_le' hb ha] at hc <;> first | exact hc | omega
theorem P.icmp_ge_n {G : GG} {own : String} {cc : ByteArray} {nL : Nat} {K : KK} {pc : Nat} {ls : List (Option Value)} {st : List Value} {n : Nat} {σ : SS} {a b : Nat} {off : Int} {tgt : Nat} (hd : decode cc pc = .ok (.if_icmp .ge off, 3)) (ht : (pc : Int) + off = (tgt : Int)) (ha : a < 2147483648) (hb : b < 2147483648) (kt : b ≤ a → P G own cc nL K tgt ls st n σ) (kf : a < b → P G own cc nL K (pc + 3) ls st n σ) : P G own cc nL K pc ls (.int (nI b) :: .int (nI a) :: st) n σ := by
  refine P.icmp_ge hd ht (fun hc => kt ?_) (fun hc => kf ?_) <;> simp only [gt_iff_lt, ge_iff_le, nI_lt' ha hb, nI_le' ha hb, nI_eq' ha hb, nI_lt' hb ha, nI_le' hb ha] at hc <;> first | exact hc | omega
theorem P.icmp_gt_n {G : GG} {own : String} {cc : ByteArray} {nL : Nat} {K : KK} {pc : Nat} {ls : List (Option Value)} {st : List Value} {n : Nat} {σ : SS} {a b : Nat} {off : Int} {tgt : Nat} (hd : decode cc pc = .ok (.if_icmp .gt off, 3)) (ht : (pc : Int) + off = (tgt : Int)) (ha : a < 2147483648) (hb : b < 2147483648) (kt : b < a → P G own cc nL K tgt ls st n σ) (kf : a ≤ b → P G own cc nL K (pc + 3) ls st n σ) : P G own cc nL K pc ls (.int (nI b) :: .int (nI a) :: st) n σ := by
  refine P.icmp_gt hd ht (fun hc => kt ?_) (fun hc => kf ?_) <;> simp only [gt_iff_lt, ge_iff_le, nI_lt' ha hb, nI_le' ha hb, nI_eq' ha hb, nI_lt' hb ha, nI_le' hb ha] at hc <;> first | exact hc | omega
theorem P.icmp_le_n {G : GG} {own : String} {cc : ByteArray} {nL : Nat} {K : KK} {pc : Nat} {ls : List (Option Value)} {st : List Value} {n : Nat} {σ : SS} {a b : Nat} {off : Int} {tgt : Nat} (hd : decode cc pc = .ok (.if_icmp .le off, 3)) (ht : (pc : Int) + off = (tgt : Int)) (ha : a < 2147483648) (hb : b < 2147483648) (kt : a ≤ b → P G own cc nL K tgt ls st n σ) (kf : b < a → P G own cc nL K (pc + 3) ls st n σ) : P G own cc nL K pc ls (.int (nI b) :: .int (nI a) :: st) n σ := by
  refine P.icmp_le hd ht (fun hc => kt ?_) (fun hc => kf ?_) <;> simp only [gt_iff_lt, ge_iff_le, nI_lt' ha hb, nI_le' ha hb, nI_eq' ha hb, nI_lt' hb ha, nI_le' hb ha] at hc <;> first | exact hc | omega
theorem P.if_eq_n {G : GG} {own : String} {cc : ByteArray} {nL : Nat} {K : KK} {pc : Nat} {ls : List (Option Value)} {st : List Value} {n : Nat} {σ : SS} {a : Nat} {off : Int} {tgt : Nat} (hd : decode cc pc = .ok (.ifCond .eq off, 3)) (ht : (pc : Int) + off = (tgt : Int)) (ha : a < 2147483648) (kt : a = 0 → P G own cc nL K tgt ls st n σ) (kf : a ≠ 0 → P G own cc nL K (pc + 3) ls st n σ) : P G own cc nL K pc ls (.int (nI a) :: st) n σ := by
  refine P.if_eq hd ht (fun hc => kt ?_) (fun hc => kf ?_) <;> simp only [nI_z ha] at hc <;> first | exact hc | omega
theorem P.if_ne_n {G : GG} {own : String} {cc : ByteArray} {nL : Nat} {K : KK} {pc : Nat} {ls : List (Option Value)} {st : List Value} {n : Nat} {σ : SS} {a : Nat} {off : Int} {tgt : Nat} (hd : decode cc pc = .ok (.ifCond .ne off, 3)) (ht : (pc : Int) + off = (tgt : Int)) (ha : a < 2147483648) (kt : a ≠ 0 → P G own cc nL K tgt ls st n σ) (kf : a = 0 → P G own cc nL K (pc + 3) ls st n σ) : P G own cc nL K pc ls (.int (nI a) :: st) n σ := by
  refine P.if_ne hd ht (fun hc => kt ?_) (fun hc => kf ?_) <;> simp only [nI_z ha] at hc <;> first | exact hc | omega
def bI (b : Bool) : Int32 := if b then 1 else 0
theorem bI_nz (b : Bool) : ¬ bI b = 0 ↔ b = true := by cases b <;> decide
theorem bI_z (b : Bool) : bI b = 0 ↔ b = false := by cases b <;> decide
theorem P.if_eq_b {G : GG} {own : String} {cc : ByteArray} {nL : Nat} {K : KK} {pc : Nat} {ls : List (Option Value)} {st : List Value} {n : Nat} {σ : SS} {b : Bool} {off : Int} {tgt : Nat} (hd : decode cc pc = .ok (.ifCond .eq off, 3)) (ht : (pc : Int) + off = (tgt : Int)) (kt : b = false → P G own cc nL K tgt ls st n σ) (kf : b = true → P G own cc nL K (pc + 3) ls st n σ) : P G own cc nL K pc ls (.int (bI b) :: st) n σ := by
  refine P.if_eq hd ht (fun hc => kt ?_) (fun hc => kf ?_) <;> cases b <;> first | rfl | (exact absurd hc (by decide))
theorem P.if_ne_b {G : GG} {own : String} {cc : ByteArray} {nL : Nat} {K : KK} {pc : Nat} {ls : List (Option Value)} {st : List Value} {n : Nat} {σ : SS} {b : Bool} {off : Int} {tgt : Nat} (hd : decode cc pc = .ok (.ifCond .ne off, 3)) (ht : (pc : Int) + off = (tgt : Int)) (kt : b = true → P G own cc nL K tgt ls st n σ) (kf : b = false → P G own cc nL K (pc + 3) ls st n σ) : P G own cc nL K pc ls (.int (bI b) :: st) n σ := by
  refine P.if_ne hd ht (fun hc => kt ?_) (fun hc => kf ?_) <;> cases b <;> first | rfl | (exact absurd hc (by decide))
theorem P.lc_eq {G : GG} {own : String} {cc : ByteArray} {nL : Nat} {K : KK} {pc : Nat} {ls : List (Option Value)} {st : List Value} {n : Nat} {σ : SS} {x y : Int64} {off : Int} {tgt : Nat} (hd0 : decode cc pc = .ok (.lcmp, 1)) (hd : decode cc (pc + 1) = .ok (.ifCond .eq off, 3)) (ht : ((pc + 1 : Nat) : Int) + off = (tgt : Int)) (kt : x = y → P G own cc nL K tgt ls st n σ) (kf : x ≠ y → P G own cc nL K (pc + 1 + 3) ls st n σ) : P G own cc nL K pc ls (.long y :: .long x :: st) n σ := by
  refine P.lcmp hd0 (P.if_eq hd ht (fun hc => kt ?_) (fun hc => kf ?_)) <;> simp only [ge_iff_le, gt_iff_lt, ne_eq, lg_cmp_eq, Classical.not_not] at hc ⊢ <;> exact hc
theorem P.lc_ne {G : GG} {own : String} {cc : ByteArray} {nL : Nat} {K : KK} {pc : Nat} {ls : List (Option Value)} {st : List Value} {n : Nat} {σ : SS} {x y : Int64} {off : Int} {tgt : Nat} (hd0 : decode cc pc = .ok (.lcmp, 1)) (hd : decode cc (pc + 1) = .ok (.ifCond .ne off, 3)) (ht : ((pc + 1 : Nat) : Int) + off = (tgt : Int)) (kt : x ≠ y → P G own cc nL K tgt ls st n σ) (kf : x = y → P G own cc nL K (pc + 1 + 3) ls st n σ) : P G own cc nL K pc ls (.long y :: .long x :: st) n σ := by
  refine P.lcmp hd0 (P.if_ne hd ht (fun hc => kt ?_) (fun hc => kf ?_)) <;> simp only [ge_iff_le, gt_iff_lt, ne_eq, lg_cmp_eq, Classical.not_not] at hc ⊢ <;> exact hc
theorem P.lc_lt {G : GG} {own : String} {cc : ByteArray} {nL : Nat} {K : KK} {pc : Nat} {ls : List (Option Value)} {st : List Value} {n : Nat} {σ : SS} {x y : Int64} {off : Int} {tgt : Nat} (hd0 : decode cc pc = .ok (.lcmp, 1)) (hd : decode cc (pc + 1) = .ok (.ifCond .lt off, 3)) (ht : ((pc + 1 : Nat) : Int) + off = (tgt : Int)) (kt : x < y → P G own cc nL K tgt ls st n σ) (kf : ¬ x < y → P G own cc nL K (pc + 1 + 3) ls st n σ) : P G own cc nL K pc ls (.long y :: .long x :: st) n σ := by
  refine P.lcmp hd0 (P.if_lt hd ht (fun hc => kt ?_) (fun hc => kf ?_)) <;> simp only [ge_iff_le, gt_iff_lt, ne_eq, lg_cmp_lt, Classical.not_not] at hc ⊢ <;> exact hc
theorem P.lc_ge {G : GG} {own : String} {cc : ByteArray} {nL : Nat} {K : KK} {pc : Nat} {ls : List (Option Value)} {st : List Value} {n : Nat} {σ : SS} {x y : Int64} {off : Int} {tgt : Nat} (hd0 : decode cc pc = .ok (.lcmp, 1)) (hd : decode cc (pc + 1) = .ok (.ifCond .ge off, 3)) (ht : ((pc + 1 : Nat) : Int) + off = (tgt : Int)) (kt : y ≤ x → P G own cc nL K tgt ls st n σ) (kf : ¬ y ≤ x → P G own cc nL K (pc + 1 + 3) ls st n σ) : P G own cc nL K pc ls (.long y :: .long x :: st) n σ := by
  refine P.lcmp hd0 (P.if_ge hd ht (fun hc => kt ?_) (fun hc => kf ?_)) <;> simp only [ge_iff_le, gt_iff_lt, ne_eq, lg_cmp_ge, Classical.not_not] at hc ⊢ <;> exact hc
theorem P.lc_gt {G : GG} {own : String} {cc : ByteArray} {nL : Nat} {K : KK} {pc : Nat} {ls : List (Option Value)} {st : List Value} {n : Nat} {σ : SS} {x y : Int64} {off : Int} {tgt : Nat} (hd0 : decode cc pc = .ok (.lcmp, 1)) (hd : decode cc (pc + 1) = .ok (.ifCond .gt off, 3)) (ht : ((pc + 1 : Nat) : Int) + off = (tgt : Int)) (kt : y < x → P G own cc nL K tgt ls st n σ) (kf : ¬ y < x → P G own cc nL K (pc + 1 + 3) ls st n σ) : P G own cc nL K pc ls (.long y :: .long x :: st) n σ := by
  refine P.lcmp hd0 (P.if_gt hd ht (fun hc => kt ?_) (fun hc => kf ?_)) <;> simp only [ge_iff_le, gt_iff_lt, ne_eq, lg_cmp_gt, Classical.not_not] at hc ⊢ <;> exact hc
theorem P.lc_le {G : GG} {own : String} {cc : ByteArray} {nL : Nat} {K : KK} {pc : Nat} {ls : List (Option Value)} {st : List Value} {n : Nat} {σ : SS} {x y : Int64} {off : Int} {tgt : Nat} (hd0 : decode cc pc = .ok (.lcmp, 1)) (hd : decode cc (pc + 1) = .ok (.ifCond .le off, 3)) (ht : ((pc + 1 : Nat) : Int) + off = (tgt : Int)) (kt : x ≤ y → P G own cc nL K tgt ls st n σ) (kf : ¬ x ≤ y → P G own cc nL K (pc + 1 + 3) ls st n σ) : P G own cc nL K pc ls (.long y :: .long x :: st) n σ := by
  refine P.lcmp hd0 (P.if_le hd ht (fun hc => kt ?_) (fun hc => kf ?_)) <;> simp only [ge_iff_le, gt_iff_lt, ne_eq, lg_cmp_le, Classical.not_not] at hc ⊢ <;> exact hc
theorem P.tableIn {G : GG} {own : String} {cc : ByteArray} {nL : Nat} {K : KK} {pc : Nat} {ls : List (Option Value)} {st : List Value} {n : Nat} {σ : SS} {dflt lo hi : Int} {offs : Array Int} {len : Nat} {x : Int32} {off : Int} {tgt : Nat} (hd : decode cc pc = .ok (.tableswitch dflt lo hi offs, len)) (ha : ¬ x.toInt < lo) (hb : ¬ hi < x.toInt) (ho : offs[(x.toInt - lo).toNat]? = some off) (ht : (pc : Int) + off = (tgt : Int)) (k : P G own cc nL K tgt ls st n σ) : P G own cc nL K pc ls (.int x :: st) n σ := fun p e s m args below meth c hM hX H locs lsA hH hS hl h1 h2 => lv_tableIn hM.1 hM.2.1 hd ha hb ho ht (k p e s m args below meth c hM hX H locs lsA hH hS hl h1 h2)
theorem P.tableOut {G : GG} {own : String} {cc : ByteArray} {nL : Nat} {K : KK} {pc : Nat} {ls : List (Option Value)} {st : List Value} {n : Nat} {σ : SS} {dflt lo hi : Int} {offs : Array Int} {len : Nat} {x : Int32} {tgt : Nat} (hd : decode cc pc = .ok (.tableswitch dflt lo hi offs, len)) (h : x.toInt < lo ∨ hi < x.toInt) (ht : (pc : Int) + dflt = (tgt : Int)) (k : P G own cc nL K tgt ls st n σ) : P G own cc nL K pc ls (.int x :: st) n σ := fun p e s m args below meth c hM hX H locs lsA hH hS hl h1 h2 => lv_tableOut hM.1 hM.2.1 hd h ht (k p e s m args below meth c hM hX H locs lsA hH hS hl h1 h2)
end
section
-- the rows of P that touch the world: fields, arrays, new cells, calls, the end
theorem Hp_at {G : GG} {n : Nat} {σ : SS} {H : Heap} (h : Hp G n σ H) {k : Nat} (hk : k < n) : (wsl G n σ)[k]? = some (ad G k, cellOf G σ k) := wsl_get hk
theorem cell_obj {G : GG} {σ : SS} {k ci N : Nat} (hl : lay k = (ci, N)) (hci : ci < 11) : cellOf G σ k = .inr (ci, (List.range N).map (fun j => fv G σ k (fty ci j) j)) := by
  simp only [cellOf, hl, cellAt, if_pos hci]
theorem cell_int {G : GG} {σ : SS} {k N : Nat} (hl : lay k = (11, N)) : cellOf G σ k = .inl (G.2.2.1 0, N, .inl fun j => nI (σ.1 k j)) := by
  simp [cellOf, hl, cellAt]
theorem cell_long {G : GG} {σ : SS} {k N : Nat} (hl : lay k = (12, N)) : cellOf G σ k = .inl (G.2.2.1 1, N, .inr (.inl (σ.2.1 k))) := by
  simp [cellOf, hl, cellAt]
theorem cell_bool {G : GG} {σ : SS} {k N : Nat} (hl : lay k = (13, N)) : cellOf G σ k = .inl (G.2.2.1 2, N, .inl fun j => nI (σ.1 k j)) := by
  simp [cellOf, hl, cellAt]
theorem cell_refs {G : GG} {σ : SS} {k kd N : Nat} (hl : lay k = (kd, N)) (hk : 14 ≤ kd) : cellOf G σ k = .inl (G.2.2.1 kd, N, .inr (.inr (.inr (.inr (fun j => (σ.2.2 k j).map (fun q => ad G q)))))) := by
  simp only [cellOf, hl, cellAt]
  rw [if_neg (by omega), if_neg (by omega), if_neg (by omega), if_neg (by omega)]
theorem fs_get {G : GG} {σ : SS} {k ci N j : Nat} (hj : j < N) : ((List.range N).map (fun j => fv G σ k (fty ci j) j))[j]? = some (fv G σ k (fty ci j) j) := by
  simp [hj]
theorem upd_nI (f : Nat → Nat) (i a : Nat) : upd (fun j => nI (f j)) i (nI a) = fun j => nI (if j = i then a else f j) := by
  funext j
  simp only [upd]
  split <;> rfl
theorem fv_at {G : GG} {σ : SS} {k ci N j t : Nat} {v : Value} (hl : lay k = (ci, N)) (hci : ci < 11) (hj : j < N) (hty : fty ci j = t) (hv : fv G σ k t j = v) : ∃ fs, cellOf G σ k = .inr (ci, fs) ∧ fs[j]? = some v := by
  refine ⟨_, cell_obj hl hci, ?_⟩
  rw [fs_get hj, hty, hv]
section PHEAP
variable {G : GG} {own : String} {cc : ByteArray} {nL : Nat} {K : KK} {pc : Nat} {ls : List (Option Value)} {st : List Value} {n : Nat} {σ : SS}
theorem P.getf {ci N j k idx t : Nat} {C : String} {T : u_T} {v : Value} (hc : vwCl[ci]? = some (C, T, N)) (hin : ∀ w ∈ u_ws C T N, w ∈ lw_tbl) (hlay : lay k = (ci, N)) (hci : ci < 11) (hk : k < n) (hj : j < N) (hty : fty ci j = t) (hv : fv G σ k t j = v)
    (hlink : Cond.fieldLink own idx (T j).1 (T j).2.1 (T j).2.2.1 ∈ lw_tbl) (hd : decode cc pc = .ok (.getfield idx, 3)) (kk : P G own cc nL K (pc + 3) ls (v :: st) n σ) : P G own cc nL K pc ls (.ref (ad G k) :: st) n σ := by
  intro p e s m args below meth c hM hX H locs lsA hH hS hl h1 h2
  obtain ⟨fs, e1, e2⟩ := fv_at (G := G) (σ := σ) hlay hci hj hty hv
  refine va_get hM.1 hM.2.1 hM.2.2.2.2.1 (fun w hw => tog (hin w hw) (lays_good w hw)) hM.2.2.2.1 hM.2.2.2.2.2.1.1 hH.2 k (fs := fs) ?_ hc j hj (hM.2.2.2.2.1 _ (tog hlink rfl)) (fun _ h => h) e2 hd (kk p e s m args below meth c hM hX H locs lsA hH hS hl h1 h2)
  rw [wsl_get hk, e1]
theorem P.geti {ci N j k idx : Nat} {C : String} {T : u_T} (hc : vwCl[ci]? = some (C, T, N)) (hin : ∀ w ∈ u_ws C T N, w ∈ lw_tbl) (hlay : lay k = (ci, N)) (hci : ci < 11) (hk : k < n) (hj : j < N) (hty : fty ci j = 0)
    (hlink : Cond.fieldLink own idx (T j).1 (T j).2.1 (T j).2.2.1 ∈ lw_tbl) (hd : decode cc pc = .ok (.getfield idx, 3)) (kk : P G own cc nL K (pc + 3) ls (.int (nI (σ.1 k j)) :: st) n σ) : P G own cc nL K pc ls (.ref (ad G k) :: st) n σ :=
  P.getf hc hin hlay hci hk hj hty rfl hlink hd kk
theorem P.getl {ci N j k idx : Nat} {C : String} {T : u_T} (hc : vwCl[ci]? = some (C, T, N)) (hin : ∀ w ∈ u_ws C T N, w ∈ lw_tbl) (hlay : lay k = (ci, N)) (hci : ci < 11) (hk : k < n) (hj : j < N) (hty : fty ci j = 1)
    (hlink : Cond.fieldLink own idx (T j).1 (T j).2.1 (T j).2.2.1 ∈ lw_tbl) (hd : decode cc pc = .ok (.getfield idx, 3)) (kk : P G own cc nL K (pc + 3) ls (.long (σ.2.1 k j) :: st) n σ) : P G own cc nL K pc ls (.ref (ad G k) :: st) n σ :=
  P.getf hc hin hlay hci hk hj hty rfl hlink hd kk
theorem P.getr {ci N j k idx q : Nat} {C : String} {T : u_T} (hc : vwCl[ci]? = some (C, T, N)) (hin : ∀ w ∈ u_ws C T N, w ∈ lw_tbl) (hlay : lay k = (ci, N)) (hci : ci < 11) (hk : k < n) (hj : j < N) (hty : fty ci j = 2) (hr : σ.2.2 k j = some q)
    (hlink : Cond.fieldLink own idx (T j).1 (T j).2.1 (T j).2.2.1 ∈ lw_tbl) (hd : decode cc pc = .ok (.getfield idx, 3)) (kk : P G own cc nL K (pc + 3) ls (.ref (ad G q) :: st) n σ) : P G own cc nL K pc ls (.ref (ad G k) :: st) n σ :=
  P.getf hc hin hlay hci hk hj hty (by simp [fv, hr, va_rf]) hlink hd kk
theorem Hp.store {σ' : SS} {H H1 : Heap} {k : Nat} (hH : Hp G n σ H) (hk : k < n) (z : H1.size = H.size) (oq : ∀ q : Nat, q ≠ ad G k → H1[q]? = H[q]?) (he : va_at G.2.1 vwCl (ad G k, cellOf G σ' k) H1) (hrow : ∀ q, q ≠ k → cellOf G σ' q = cellOf G σ q) : Hp G n σ' H1 := by
  refine ⟨z.trans hH.1, ?_⟩
  have h1 := hH.2.set (wsl_D G n σ) (wsl_get hk) he oq
  rwa [wsl_set (σ' := σ') rfl hrow] at h1
theorem aA0 (G : GG) (k : Nat) : A0 G (ad G k) := Nat.le_add_right _ _
/-- a field written: what the new world is, any way -/
theorem P.putf {ci N j k idx : Nat} {C : String} {T : u_T} {ty : FieldType} {v : Value} {σ' : SS} (ty0 : Nat → FieldType) (hty0 : ∀ k, k < N → parseFieldDescriptor (T k).2.2.1 = some (ty0 k)) (hnm : ∀ a, a < N → ∀ b, b < N → a ≠ b → (T a).2.1 ≠ (T b).2.1)
    (hc : vwCl[ci]? = some (C, T, N)) (hin : ∀ w ∈ u_ws C T N, w ∈ lw_tbl) (hlay : lay k = (ci, N)) (hci : ci < 11) (hk : k < n) (hj : j < N) (hfin : (T j).2.2.2 = false ∨ ((T j).2.2.2 = true ∧ (∀ s args meth, K.2.2.1 s args meth → meth.name = "<init>") ∧ (T j).1 = own)) (hpd : parseFieldDescriptor (T j).2.2.1 = some ty) (hn : narrow ty v = v) (hfit : fits ty v = true)
    (hnew : fv G σ' k (fty ci j) j = v) (hrow : ∀ q, q ≠ k → cellOf G σ' q = cellOf G σ q) (hoth : ∀ i, i ≠ j → fv G σ' k (fty ci i) i = fv G σ k (fty ci i) i)
    (hlink : Cond.fieldLink own idx (T j).1 (T j).2.1 (T j).2.2.1 ∈ lw_tbl) (hd : decode cc pc = .ok (.putfield idx, 3)) (kk : P G own cc nL K (pc + 3) ls st n σ') : P G own cc nL K pc ls (v :: .ref (ad G k) :: st) n σ := by
  intro p e s m args below meth c hM hX H locs lsA hH hS hl h1 h2
  obtain ⟨hx, hb, -, hown, hts, ⟨hK, -⟩, -, -⟩ := id hM
  have hin' : ∀ w ∈ u_ws C T N, w ∈ gtbl := fun w hw => tog (hin w hw) (lays_good w hw)
  have hlink' := hts _ (tog hlink rfl)
  have hap := va_apart (own := own) hts hin' ty0 hty0 hnm hK hc
  have hg := wsl_get (G := G) (σ := σ) hk
  rw [cell_obj hlay hci] at hg
  obtain ⟨r, hr1, cell, q1, q2, q3, q4⟩ := hH.2 k _ hg
  have hr : r = (C, T, N) := Option.some.inj (hr1.symm.trans hc)
  subst hr
  dsimp only at q1 q2 q3 q4
  obtain ⟨hSl, hfc, kC, hkC, hkind⟩ := hK.1 ci _ hc
  obtain ⟨cf, kf, fi, f, hi, hsl⟩ := hSl j hj
  have hst := (u_facts hfc hkC (u_lays hts hin' hj) hi).1
  have hlay' := hts _ (hin' _ (u_in_lay hj))
  unfold u_lay at hlay'
  have fin : ∀ H' : Heap, H'[ad G k]? = some (cell.setSlot f.slot v) → H'.size = H.size → (∀ q, q ≠ ad G k → H'[q]? = H[q]?) → W p G.1 e K.1 s m args below meth c H' (locs ++ [⟨ad G k, f.slot⟩]) (n - K.2.1) (szs n - szs K.2.1) (K.2.2.2 s args below) (F0 m (pc + 3) lsA st) := by
    intro H' e1 e2 e3
    rw [hsl] at e1
    refine kk p e s m args below meth c hM hX H' _ lsA (hH.store hk e2 e3 ?_ hrow) (hS.put e2 e3 (aA0 G k)) hl h1 h2
    rw [cell_obj hlay hci]
    refine ⟨_, hc, t_OB.to (V := updV (vp_V ((List.range N).map (fun j => fv G σ k (fty ci j) j))) j v) ⟨_, e1, q2, q3, t_set q4 hap hj v⟩ (fun i hi => ?_)⟩
    rw [vp_updV_set (by simpa using hj)]
    simp only [vp_V]
    by_cases hij : i = j
    · subst hij
      simp only [List.getD_eq_getElem?_getD]
      rw [List.getElem?_set_self (by simpa using hj), fs_get hj, hnew]
    · simp only [List.getD_eq_getElem?_getD]
      rw [List.getElem?_set_ne (Ne.symm hij), fs_get hi, fs_get hi, hoth i hij]
  rcases hfin with hfin | ⟨hfin, hin2, hdecl⟩
  · rw [if_neg (by rw [hfin]; decide)] at hlay'
    have h6 := u_store hfc hkC hkind hlay' hi hpd hn hfit
    exact W.putK hx hb (f := f) ⟨hown, hlink', ⟨_, _, _, hi⟩, hst⟩ (by rw [q2]; exact h6) q1 q3 (by rw [hsl]; exact k2_hasslot (q4 j hj)) rfl rfl hd fin
  · rw [if_pos hfin] at hlay'
    have hcf : m.cls = cf := by
      obtain ⟨_, _, c', _, _, _, -, -, hf', -, -, -, hown2, -⟩ := Cond.laysFinal_spec hlay'
      have e1 : c' = cf := by have := hi.symm.trans hf'; simp at this; exact this.1.symm
      rw [hdecl] at hown2
      rw [← e1]; exact Option.some.inj (hown.symm.trans hown2)
    have h6 := u_fits hfc hkC hkind (Or.inr hlay') hi hpd hn hfit
    exact W.putFinK hx hb hown hlink' hi hst hcf (hin2 _ _ _ hX) (by rw [q2]; exact h6) q1 q3 (by rw [hsl]; exact k2_hasslot (q4 j hj)) rfl rfl hd fin
theorem fv_i {σ' : SS} {k t i : Nat} (h1 : σ'.1 k i = σ.1 k i) (h2 : σ'.2.1 k i = σ.2.1 k i) (h3 : σ'.2.2 k i = σ.2.2 k i) : fv G σ' k t i = fv G σ k t i := by
  simp only [fv, h1, h2, h3]
theorem row_i {f : Nat → Nat → Nat} {l : Nat → Nat → Int64} {r : Nat → Nat → Option Nat} {k j a : Nat} : ∀ q, q ≠ k → cellOf G (uf f k j a, l, r) q = cellOf G (f, l, r) q := fun q hq => cellOf_row (uf_row f a hq) rfl rfl
theorem row_l {f : Nat → Nat → Nat} {l : Nat → Nat → Int64} {r : Nat → Nat → Option Nat} {k j : Nat} {a : Int64} : ∀ q, q ≠ k → cellOf G (f, uf l k j a, r) q = cellOf G (f, l, r) q := fun q hq => cellOf_row rfl (uf_row l a hq) rfl
theorem row_r {f : Nat → Nat → Nat} {l : Nat → Nat → Int64} {r : Nat → Nat → Option Nat} {k j : Nat} {a : Option Nat} : ∀ q, q ≠ k → cellOf G (f, l, uf r k j a) q = cellOf G (f, l, r) q := fun q hq => cellOf_row rfl rfl (uf_row r a hq)
/-- an int field (boolean: 0 or 1) -/
theorem P.puti {ci N j k idx a : Nat} {C : String} {T : u_T} {ty : FieldType} {x : Int32} {f : Nat → Nat → Nat} {l : Nat → Nat → Int64} {r : Nat → Nat → Option Nat} (ty0 : Nat → FieldType) (hty0 : ∀ k, k < N → parseFieldDescriptor (T k).2.2.1 = some (ty0 k)) (hnm : ∀ a, a < N → ∀ b, b < N → a ≠ b → (T a).2.1 ≠ (T b).2.1)
    (hc : vwCl[ci]? = some (C, T, N)) (hin : ∀ w ∈ u_ws C T N, w ∈ lw_tbl) (hlay : lay k = (ci, N)) (hci : ci < 11) (hk : k < n) (hj : j < N) (hfin : (T j).2.2.2 = false) (hpd : parseFieldDescriptor (T j).2.2.1 = some ty) (hty : fty ci j = 0)
    (hlink : Cond.fieldLink own idx (T j).1 (T j).2.1 (T j).2.2.1 ∈ lw_tbl) (hd : decode cc pc = .ok (.putfield idx, 3)) (hx : x = nI a) (hti : ty = .int ∨ (ty = .boolean ∧ a < 2)) (kk : P G own cc nL K (pc + 3) ls st n (uf f k j a, l, r)) : P G own cc nL K pc ls (.int x :: .ref (ad G k) :: st) n (f, l, r) := by
  subst hx
  refine P.putf ty0 hty0 hnm hc hin hlay hci hk hj (Or.inl hfin) hpd ?_ ?_ (by simp [fv, hty, uf_self]) row_i (fun i hi => fv_i (uf_ne f a (Or.inr hi)) rfl rfl) hlink hd kk
  · rcases hti with rfl | ⟨rfl, h⟩
    · rfl
    · rcases (show a = 0 ∨ a = 1 by omega) with rfl | rfl <;> rfl
  · rcases hti with rfl | ⟨rfl, h⟩
    · rfl
    · rcases (show a = 0 ∨ a = 1 by omega) with rfl | rfl <;> rfl
theorem P.putl {ci N j k idx : Nat} {C : String} {T : u_T} {x : Int64} {f : Nat → Nat → Nat} {l : Nat → Nat → Int64} {r : Nat → Nat → Option Nat} (ty0 : Nat → FieldType) (hty0 : ∀ k, k < N → parseFieldDescriptor (T k).2.2.1 = some (ty0 k)) (hnm : ∀ a, a < N → ∀ b, b < N → a ≠ b → (T a).2.1 ≠ (T b).2.1)
    (hc : vwCl[ci]? = some (C, T, N)) (hin : ∀ w ∈ u_ws C T N, w ∈ lw_tbl) (hlay : lay k = (ci, N)) (hci : ci < 11) (hk : k < n) (hj : j < N) (hfin : (T j).2.2.2 = false) (hpd : parseFieldDescriptor (T j).2.2.1 = some .long) (hty : fty ci j = 1)
    (hlink : Cond.fieldLink own idx (T j).1 (T j).2.1 (T j).2.2.1 ∈ lw_tbl) (hd : decode cc pc = .ok (.putfield idx, 3)) (kk : P G own cc nL K (pc + 3) ls st n (f, uf l k j x, r)) : P G own cc nL K pc ls (.long x :: .ref (ad G k) :: st) n (f, l, r) :=
  P.putf ty0 hty0 hnm hc hin hlay hci hk hj (Or.inl hfin) hpd rfl rfl (by simp [fv, hty, uf_self]) row_l (fun i hi => fv_i rfl (uf_ne l x (Or.inr hi)) rfl) hlink hd kk
/-- a final reference field, in a constructor -/
theorem P.putr {ci N j k idx q : Nat} {C : String} {T : u_T} {ty : FieldType} {f : Nat → Nat → Nat} {l : Nat → Nat → Int64} {r : Nat → Nat → Option Nat} (ty0 : Nat → FieldType) (hty0 : ∀ k, k < N → parseFieldDescriptor (T k).2.2.1 = some (ty0 k)) (hnm : ∀ a, a < N → ∀ b, b < N → a ≠ b → (T a).2.1 ≠ (T b).2.1)
    (hc : vwCl[ci]? = some (C, T, N)) (hin : ∀ w ∈ u_ws C T N, w ∈ lw_tbl) (hlay : lay k = (ci, N)) (hci : ci < 11) (hk : k < n) (hj : j < N) (hfin : (T j).2.2.2 = true) (hin2 : ∀ s args meth, K.2.2.1 s args meth → meth.name = "<init>") (hdecl : (T j).1 = own) (hpd : parseFieldDescriptor (T j).2.2.1 = some ty) (hty : fty ci j = 2) (hrt : ∀ q : Nat, narrow ty (.ref q) = .ref q ∧ fits ty (.ref q) = true)
    (hlink : Cond.fieldLink own idx (T j).1 (T j).2.1 (T j).2.2.1 ∈ lw_tbl) (hd : decode cc pc = .ok (.putfield idx, 3)) (kk : P G own cc nL K (pc + 3) ls st n (f, l, uf r k j (some q))) : P G own cc nL K pc ls (.ref (ad G q) :: .ref (ad G k) :: st) n (f, l, r) :=
  P.putf ty0 hty0 hnm hc hin hlay hci hk hj (Or.inr ⟨hfin, hin2, hdecl⟩) hpd (hrt _).1 (hrt _).2 (by simp [fv, hty, uf_self, va_rf]) row_r (fun i hi => fv_i rfl rfl (uf_ne r _ (Or.inr hi))) hlink hd kk
-- arrays
theorem in_nI {i N : Nat} (h : i < N) (hN : N < 2147483648) : vp_in (nI i) N := vp_in_nI h hN
theorem cl_nI {i : Nat} (h : i < 2147483648) : (nI i).toNatClampNeg = i := nI_clamp h
theorem P.iald {k N i : Nat} (hlay : lay k = (11, N)) (hk : k < n) (hi : i < N) (hN : N < 2147483648) (hd : decode cc pc = .ok (.iaload, 1)) (kk : P G own cc nL K (pc + 1) ls (.int (nI (σ.1 k i)) :: st) n σ) : P G own cc nL K pc ls (.int (nI i) :: .ref (ad G k) :: st) n σ := by
  intro p e s m args below meth c hM hX H locs lsA hH hS hl h1 h2
  have k2 := kk p e s m args below meth c hM hX H locs lsA hH hS hl h1 h2
  refine va_iald hM.1 hM.2.1 hM.2.2.2.2.2.1.1 hH.2 k 0 (cA := G.2.2.1 0) (n := N) (f := fun j => nI (σ.1 k j)) (by rw [wsl_get hk, cell_int hlay]) rfl (in_nI hi hN) hd ?_
  rw [cl_nI (by omega)]
  exact k2
theorem P.zald {k N i : Nat} (hlay : lay k = (13, N)) (hk : k < n) (hi : i < N) (hN : N < 2147483648) (hd : decode cc pc = .ok (.baload, 1)) (kk : P G own cc nL K (pc + 1) ls (.int (nI (σ.1 k i)) :: st) n σ) : P G own cc nL K pc ls (.int (nI i) :: .ref (ad G k) :: st) n σ := by
  intro p e s m args below meth c hM hX H locs lsA hH hS hl h1 h2
  have k2 := kk p e s m args below meth c hM hX H locs lsA hH hS hl h1 h2
  refine va_zald hM.1 hM.2.1 hM.2.2.2.2.2.1.1 hH.2 k 2 (cA := G.2.2.1 2) (n := N) (f := fun j => nI (σ.1 k j)) (by rw [wsl_get hk, cell_bool hlay]) rfl (in_nI hi hN) hd ?_
  rw [cl_nI (by omega)]
  exact k2
theorem P.lald {k N i : Nat} (hlay : lay k = (12, N)) (hk : k < n) (hi : i < N) (hN : N < 2147483648) (hd : decode cc pc = .ok (.laload, 1)) (kk : P G own cc nL K (pc + 1) ls (.long (σ.2.1 k i) :: st) n σ) : P G own cc nL K pc ls (.int (nI i) :: .ref (ad G k) :: st) n σ := by
  intro p e s m args below meth c hM hX H locs lsA hH hS hl h1 h2
  have k2 := kk p e s m args below meth c hM hX H locs lsA hH hS hl h1 h2
  refine va_lald hM.1 hM.2.1 hM.2.2.2.2.2.1.1 hH.2 k 1 (cA := G.2.2.1 1) (n := N) (f := σ.2.1 k) (by rw [wsl_get hk, cell_long hlay]) rfl (in_nI hi hN) hd ?_
  rw [cl_nI (by omega)]
  exact k2
theorem P.aald {k kd N i q t0 : Nat} {C : String} (hlay : lay k = (kd, N)) (hkd : 14 ≤ kd) (ht : (tysl G)[t0]? = some (G.2.2.1 kd, .object C)) (hk : k < n) (hi : i < N) (hN : N < 2147483648) (hr : σ.2.2 k i = some q) (hd : decode cc pc = .ok (.aaload, 1)) (kk : P G own cc nL K (pc + 1) ls (.ref (ad G q) :: st) n σ) : P G own cc nL K pc ls (.int (nI i) :: .ref (ad G k) :: st) n σ := by
  intro p e s m args below meth c hM hX H locs lsA hH hS hl h1 h2
  have k2 := kk p e s m args below meth c hM hX H locs lsA hH hS hl h1 h2
  refine va_aldq hM.1 hM.2.1 hM.2.2.2.2.2.1.1 hH.2 k t0 (cA := G.2.2.1 kd) (C := C) (n := N) (f := fun j => (σ.2.2 k j).map (fun q => ad G q)) (by rw [wsl_get hk, cell_refs hlay hkd]) ht (in_nI hi hN) hd ?_
  rw [cl_nI (by omega), hr]
  exact k2
theorem P.iast {k N i a : Nat} {x : Int32} {f : Nat → Nat → Nat} {l : Nat → Nat → Int64} {r : Nat → Nat → Option Nat} (hlay : lay k = (11, N)) (hk : k < n) (hi : i < N) (hN : N < 2147483648) (hx : x = nI a) (hd : decode cc pc = .ok (.iastore, 1)) (kk : P G own cc nL K (pc + 1) ls st n (uf f k i a, l, r)) : P G own cc nL K pc ls (.int x :: .int (nI i) :: .ref (ad G k) :: st) n (f, l, r) := by
  intro p e s m args below meth c hM hX H locs lsA hH hS hl h1 h2
  have hg := hH.2 k _ (wsl_get (G := G) hk)
  rw [cell_int hlay] at hg
  refine W.iast hM.1 hM.2.1 hg ((hM.2.2.2.2.2.1.1.2 0 _ rfl).1 N (fun j => .int (nI (f k j)))) (fun q => by cases q) (by show ¬ (_ < 0 ∨ (arrV _ _ _).slots.size ≤ _); rw [arrV_size]; exact in_nI hi hN) rfl rfl hd fun H1 e1 z oq => ?_
  refine kk p e s m args below meth c hM hX H1 _ lsA (hH.store hk z oq ?_ row_i) (hS.put z oq (aA0 G k)) hl h1 h2
  rw [cell_int hlay]
  show H1[ad G k]? = some (vp_cell _ _)
  rw [e1, vp_cell_i, vp_cell_i, arrV_store, cl_nI (by omega), hx]
  congr 2
  funext q
  by_cases hq : q = i
  · subst hq
    simp [updV, uf]
  · simp [updV, uf, hq]
theorem P.zast {k N i a : Nat} {x : Int32} {f : Nat → Nat → Nat} {l : Nat → Nat → Int64} {r : Nat → Nat → Option Nat} (hlay : lay k = (13, N)) (hk : k < n) (hi : i < N) (hN : N < 2147483648) (hx : x = nI a) (ha : a < 2) (hd : decode cc pc = .ok (.bastore, 1)) (kk : P G own cc nL K (pc + 1) ls st n (uf f k i a, l, r)) : P G own cc nL K pc ls (.int x :: .int (nI i) :: .ref (ad G k) :: st) n (f, l, r) := by
  intro p e s m args below meth c hM hX H locs lsA hH hS hl h1 h2
  have hg := hH.2 k _ (wsl_get (G := G) hk)
  rw [cell_bool hlay] at hg
  refine W.zast hM.1 hM.2.1 hg ((hM.2.2.2.2.2.1.1.2 2 _ rfl).1 N (fun j => .int (nI (f k j)))) (fun q => by cases q) (by show ¬ (_ < 0 ∨ (arrV _ _ _).slots.size ≤ _); rw [arrV_size]; exact in_nI hi hN) rfl rfl hd fun H1 e1 z oq => ?_
  refine kk p e s m args below meth c hM hX H1 _ lsA (hH.store hk z oq ?_ row_i) (hS.put z oq (aA0 G k)) hl h1 h2
  rw [cell_bool hlay]
  show H1[ad G k]? = some (vp_cell _ _)
  have hna : narrow .boolean (.int x) = .int (nI a) := by
    subst hx
    rcases (show a = 0 ∨ a = 1 by omega) with rfl | rfl <;> rfl
  rw [e1, vp_cell_i, vp_cell_i, arrV_store, cl_nI (by omega), hna]
  congr 2
  funext q
  by_cases hq : q = i
  · subst hq
    simp [updV, uf]
  · simp [updV, uf, hq]
theorem P.last {k N i : Nat} {x : Int64} {f : Nat → Nat → Nat} {l : Nat → Nat → Int64} {r : Nat → Nat → Option Nat} (hlay : lay k = (12, N)) (hk : k < n) (hi : i < N) (hN : N < 2147483648) (hd : decode cc pc = .ok (.lastore, 1)) (kk : P G own cc nL K (pc + 1) ls st n (f, uf l k i x, r)) : P G own cc nL K pc ls (.long x :: .int (nI i) :: .ref (ad G k) :: st) n (f, l, r) := by
  intro p e s m args below meth c hM hX H locs lsA hH hS hl h1 h2
  have hg := hH.2 k _ (wsl_get (G := G) hk)
  rw [cell_long hlay] at hg
  refine W.last hM.1 hM.2.1 hg ((hM.2.2.2.2.2.1.1.2 1 _ rfl).1 N (fun j => .long (l k j))) (fun q => by cases q) (by show ¬ (_ < 0 ∨ (arrV _ _ _).slots.size ≤ _); rw [arrV_size]; exact in_nI hi hN) rfl rfl hd fun H1 e1 z oq => ?_
  refine kk p e s m args below meth c hM hX H1 _ lsA (hH.store hk z oq ?_ row_l) (hS.put z oq (aA0 G k)) hl h1 h2
  rw [cell_long hlay]
  show H1[ad G k]? = some (vp_cell _ _)
  rw [e1, vp_cell_l, vp_cell_l, arrV_store, cl_nI (by omega)]
  congr 2
  funext q
  by_cases hq : q = i
  · subst hq
    simp [updV, uf]
  · simp [updV, uf, hq]
end PHEAP
end
section
-- calls, the end, what a method is
theorem Kl.moved {G : GG} {u U : State} (hW : u.WarmedH U.vm) (h : Kl G u) : Kl G U := by
  refine ⟨va_K.moved hW.alike h.1, fun w hw => ?_, fun C hC => va_AO.moved hW.alike (h.2.2 C hC)⟩
  have hn := (List.mem_filter.mp hw).2
  have h0 := h.2.1 w hw
  cases w <;> first | (simp [isNest] at hn; done) | exact va_Nw.warmM hW h0
theorem Kl.same {G : GG} {u U : State} (hv : u.vm = U.vm) (h : Kl G u) : Kl G U := by
  refine ⟨va_K.moved (by rw [hv]; exact Vm.Alike.refl _) h.1, fun w hw => ?_, fun C hC => va_AO.moved (by rw [hv]; exact Vm.Alike.refl _) (h.2.2 C hC)⟩
  have hn := (List.mem_filter.mp hw).2
  have h0 := h.2.1 w hw
  cases w <;> first | (simp [isNest] at hn; done) | exact va_Nw.same rfl hv h0
theorem Wd.blind {G : GG} {as : List Value} {n : Nat} {σ : SS} : FrameBlind (va_Pc as (Wd G n σ)) := by
  intro a U g mk h
  exact ⟨h.1, h.2.1, Kl.same (u := U) (U := U.calling g mk a) rfl h.2.2⟩
/-- what is decided once of a method -/
def MOK (mi : MI) (k : Nat) : Prop := Cond.code mi.1 mi.2.1 mi.2.2.1 mi.2.2.2.1 ∈ lw_tbl ∧ Cond.initialized mi.1.cls ∈ lw_tbl ∧ (mi.1.cls ≠ "java/lang/invoke/MethodHandle" ∧ mi.1.cls ≠ "java/lang/invoke/VarHandle" ∧ (parseMethodDescriptor mi.1.desc).map (fun d => d.parameters.length) = some k) ∧ mi.2.2.1 ≤ 20 ∧ plainName mi.1.cls = true
def MOV (mi : MI) (k : Nat) : Prop := MOK mi k ∧ Cond.instanceMethod mi.1 ∈ lw_tbl ∧ Cond.selects mi.1.cls mi.1 mi.1 ∈ lw_tbl
def MOS (mi : MI) (k : Nat) : Prop := MOK mi k ∧ Cond.static mi.1 ∈ lw_tbl
def MOI (mi : MI) (k : Nat) : Prop := MOK mi k ∧ mi.1.name = "<init>" ∧ Cond.instanceMethod mi.1 ∈ lw_tbl ∧ mi.2.2.2.1 = none
theorem mws_good (mi : MI) (h : Cond.code mi.1 mi.2.1 mi.2.2.1 mi.2.2.2.1 ∈ lw_tbl) : GoodIn gtbl (mws mi) := by
  intro w hw
  rcases List.mem_cons.mp hw with rfl | hw
  · exact ⟨tog h rfl, good_of_word (w := Cond.code _ _ _ _) rfl⟩
  · exact ⟨hw, good_of_word (gtbl_good w hw)⟩
theorem runW {p : Program} {G : GG} {e : Env} {R : Room} {s : State} {m : MethodId} {args : Array Value} {below : List Frame} {meth : Method} {c : Code} {H H0 : Heap} {locs : List Loc} {cells slots mc ms : Nat} {Q : State → Prop} {pc : Nat} {ls : Array Slot} {rest st0 : List Value} {r : Option Value} {n : Nat} {σ : SS} {a : Array Value}
    (hr : va_Run p G.1 e R s m args below meth c H locs cells slots mc ms (F0 m pc ls st0) rest (Qo G r n σ a) (A0 G)) (hS : va_S (A0 G) H0 H locs)
    (kk : ∀ (H1 : Heap) (locs1 : List Loc), Hp G n σ H1 → va_S (A0 G) H0 H1 locs1 → W p G.1 e R s m args below meth c H1 locs1 (cells + mc) (slots + ms) Q (F0 m (pc + 3) ls (r.toList ++ rest))) : W p G.1 e R s m args below meth c H locs cells slots Q (F0 m pc ls st0) := by
  intro T hT X
  obtain ⟨v, st₀, t, T', L, h0, X', hL, e1, e2, ⟨hv, hH, hF⟩, st⟩ := hr T hT X
  cases hv
  obtain ⟨hz, hk⟩ := hF
  rw [h0] at hz hk
  obtain ⟨t2, a1, b1⟩ := kk T'.heap (locs ++ L) (by rw [e1]; exact hH) ⟨Nat.le_trans hS.1 (by rw [e1]; exact hz), fun q h1 h2 => by rw [e1, hk q (Nat.lt_of_lt_of_le h1 hS.1) h2]; exact hS.2.1 q h1 h2, fun q hq => by
      rcases List.mem_append.mp hq with h | h
      · exact hS.2.2 q h
      · exact hL q h⟩ T' rfl X'
  exact ⟨t2, st t2 a1, b1⟩
section PCALL
variable {G : GG} {own : String} {cc : ByteArray} {nL : Nat} {K : KK} {pc : Nat} {ls : List (Option Value)} {st : List Value} {n : Nat} {σ : SS}
/-- what a call needs of the rooms -/
def Fits (K : KK) (mi : MI) (n1 : Nat) : Prop := mi.2.2.2.2 + 1 ≤ K.1.frames ∧ 8 + (20 + 11) + 40 * mi.2.2.2.2 ≤ K.1.locals ∧ n1 - K.2.1 ≤ K.1.cells ∧ szs n1 - szs K.2.1 ≤ K.1.slots
theorem fit_of {mi : MI} {n1 k : Nat} (h : Fits K mi n1) (hM : MOK mi k) {mc ms : Nat} : (mrm mi mc ms).frames + 1 ≤ K.1.frames ∧ 8 + (mi.2.2.1 + 11) + (mrm mi mc ms).locals ≤ K.1.locals := by
  refine ⟨h.1, ?_⟩
  have h1 := hM.2.2.2.1
  have h2 := h.2.1
  show 8 + (mi.2.2.1 + 11) + 40 * mi.2.2.2.2 ≤ _
  omega
theorem tail_fix {p : Program} {e : Env} {s : State} {m : MethodId} {args : Array Value} {below : List Frame} {meth : Method} {c : Code} {H1 : Heap} {locs1 : List Loc} {g : JFrame} {n1 : Nat} (hh : n ≤ n1 ∧ szs n ≤ szs n1) (h1 : K.2.1 ≤ n) (h2 : szs K.2.1 ≤ szs n) (k : W p G.1 e K.1 s m args below meth c H1 locs1 (n1 - K.2.1) (szs n1 - szs K.2.1) (K.2.2.2 s args below) g) : W p G.1 e K.1 s m args below meth c H1 locs1 (n - K.2.1 + (n1 - n)) (szs n - szs K.2.1 + (szs n1 - szs n)) (K.2.2.2 s args below) g := by
  obtain ⟨ha, hb⟩ := hh
  rw [show n - K.2.1 + (n1 - n) = n1 - K.2.1 by omega, show szs n - szs K.2.1 + (szs n1 - szs n) = szs n1 - szs K.2.1 by omega]
  exact k
theorem room_fix {n1 : Nat} {mi : MI} (hf : Fits K mi n1) (hh : n ≤ n1 ∧ szs n ≤ szs n1) (h1 : K.2.1 ≤ n) (h2 : szs K.2.1 ≤ szs n) : n - K.2.1 + (n1 - n) ≤ K.1.cells ∧ szs n - szs K.2.1 + (szs n1 - szs n) ≤ K.1.slots := by
  obtain ⟨-, -, h3, h4⟩ := hf
  obtain ⟨ha, hb⟩ := hh
  exact ⟨by omega, by omega⟩
theorem P.callV {mi : MI} {k idx b ci N n1 : Nat} {As rest : List Value} {r : Option Value} {σ1 : SS} {T : u_T} (hs : Spec G mi (.ref (ad G b) :: As) n σ r n1 σ1) (hM : MOV mi k) (hf : Fits K mi n1) (hlen : As.length = k) (hlink : Cond.methodLink own idx mi.1 ∈ lw_tbl)
    (hlay : lay b = (ci, N)) (hci : ci < 11) (hb : b < n) (hc : vwCl[ci]? = some (mi.1.cls, T, N)) (hst : st = As.reverse ++ .ref (ad G b) :: rest) (hroom : (rest.map fun v => v.category).sum ≤ 8) (hd : decode cc pc = .ok (.invokevirtual idx, 3))
    (kk : P G own cc nL K (pc + 3) ls (r.toList ++ rest) n1 σ1) : P G own cc nL K pc ls st n σ := by
  intro p e s m args below meth c hMC hX H locs lsA hH hS hl h1 h2
  obtain ⟨⟨hcode, hini, hdd, -, -⟩, hinst, hsel⟩ := id hM
  have hts := hMC.2.2.2.2.1
  have hKl := hMC.2.2.2.2.2.1
  have hT : GoodIn gtbl (wsV own idx mi.1.cls mi.1 (mws mi)) := by
    intro w hw
    rcases List.mem_append.mp hw with hw | hw
    · simp only [List.mem_cons, List.not_mem_nil, or_false] at hw
      rcases hw with rfl | rfl | rfl | rfl
      · exact ⟨tog hlink rfl, Or.inl rfl⟩
      · exact ⟨tog hinst rfl, Or.inl rfl⟩
      · exact ⟨tog hsel rfl, Or.inl rfl⟩
      · exact ⟨tog hini rfl, Or.inl rfl⟩
    · exact mws_good mi hcode w hw
  have hrun := va_runV (meth := meth) (below := below) (locs := locs) (l := G.1) (e := e) (R := K.1) (cells := n - K.2.1) (slots := szs n - szs K.2.1) (As := As) (rest := rest) (g := F0 m pc lsA st) ⟨hMC.1, hMC.2.1, hMC.2.2.1, hMC.2.2.2.1, hts⟩ hs.2 (cwV k hts hT rfl rfl rfl ⟨rfl, hdd.1, hdd.2.1, hdd.2.2⟩ (fit_of hf hM.1))
    ⟨Wd.blind, va_recv hKl.1 hH.2 hc (q0 := b) (fs := (List.range N).map (fun j => fv G σ b (fty ci j) j)) (by rw [wsl_get hb, cell_obj hlay hci]), fun U hU hW => ⟨rfl, by rw [hU]; exact hH, hKl.moved hW⟩⟩ rfl hlen hl.1 hst (lv_room hroom) hd (room_fix hf hs.1 h1 h2)
  refine runW hrun hS (fun H1 locs1 a1 a2 => tail_fix hs.1 h1 h2 ?_)
  exact kk p e s m args below meth c hMC hX H1 locs1 lsA a1 a2 hl (Nat.le_trans h1 hs.1.1) (Nat.le_trans h2 hs.1.2)
theorem P.callS {mi : MI} {k idx n1 : Nat} {As rest : List Value} {r : Option Value} {σ1 : SS} (hs : Spec G mi As n σ r n1 σ1) (hM : MOS mi k) (hf : Fits K mi n1) (hlen : As.length = k) (hlink : Cond.methodLink own idx mi.1 ∈ lw_tbl)
    (hst : st = As.reverse ++ rest) (hroom : (rest.map fun v => v.category).sum ≤ 8) (hd : decode cc pc = .ok (.invokestatic idx, 3))
    (kk : P G own cc nL K (pc + 3) ls (r.toList ++ rest) n1 σ1) : P G own cc nL K pc ls st n σ := by
  intro p e s m args below meth c hMC hX H locs lsA hH hS hl h1 h2
  obtain ⟨⟨hcode, hini, hdd, -, -⟩, hstat⟩ := id hM
  have hts := hMC.2.2.2.2.1
  have hKl := hMC.2.2.2.2.2.1
  have hrun := va_runS (meth := meth) (below := below) (locs := locs) (l := G.1) (e := e) (R := K.1) (cells := n - K.2.1) (slots := szs n - szs K.2.1) (As := As) (rest := rest) (g := F0 m pc lsA st) ⟨hMC.1, hMC.2.1, hMC.2.2.1, hMC.2.2.2.1, hts⟩ hs.2 ⟨callB_of k hts (mws_good mi hcode) rfl rfl rfl (hts _ (tog hini rfl)) (hts _ (tog hlink rfl)) hdd (fit_of hf hM.1), hts _ (tog hstat rfl)⟩
    ⟨Wd.blind, fun U hU hW => ⟨rfl, by rw [hU]; exact hH, hKl.moved hW⟩⟩ rfl hlen hl.1 hst (lv_room hroom) hd (room_fix hf hs.1 h1 h2)
  refine runW hrun hS (fun H1 locs1 a1 a2 => tail_fix hs.1 h1 h2 ?_)
  exact kk p e s m args below meth c hMC hX H1 locs1 lsA a1 a2 hl (Nat.le_trans h1 hs.1.1) (Nat.le_trans h2 hs.1.2)
theorem P.callSN {mi : MI} {k idx n1 : Nat} {As rest : List Value} {r : Option Value} {σ1 : SS} {host : String} (hs : Spec G mi As n σ r n1 σ1) (hM : MOS mi k) (hf : Fits K mi n1) (hlen : As.length = k) (hlink : Cond.methodLinkNest own idx mi.1 host ∈ lw_tbl)
    (hst : st = As.reverse ++ rest) (hroom : (rest.map fun v => v.category).sum ≤ 8) (hd : decode cc pc = .ok (.invokestatic idx, 3))
    (kk : P G own cc nL K (pc + 3) ls (r.toList ++ rest) n1 σ1) : P G own cc nL K pc ls st n σ := by
  intro p e s m args below meth c hMC hX H locs lsA hH hS hl h1 h2
  obtain ⟨⟨hcode, hini, hdd, -, -⟩, hstat⟩ := id hM
  have hts := hMC.2.2.2.2.1
  have hKl := hMC.2.2.2.2.2.1
  have hrun := va_runSN (meth := meth) (below := below) (locs := locs) (l := G.1) (e := e) (R := K.1) (cells := n - K.2.1) (slots := szs n - szs K.2.1) (As := As) (rest := rest) (g := F0 m pc lsA st) ⟨hMC.1, hMC.2.1, hMC.2.2.1, hMC.2.2.2.1, hts⟩ hs.2 ⟨va_cnB k hts (mws_good mi hcode) rfl rfl rfl (hKl.2.1 _ (List.mem_filter.mpr ⟨hlink, rfl⟩)) (hts _ (tog hini rfl)) hdd (fit_of hf hM.1), hts _ (tog hstat rfl), trivial⟩
    ⟨Wd.blind, fun U hU hW => ⟨rfl, by rw [hU]; exact hH, hKl.moved hW⟩⟩ rfl hlen hl.1 hst (lv_room hroom) hd (room_fix hf hs.1 h1 h2)
  refine runW hrun hS (fun H1 locs1 a1 a2 => tail_fix hs.1 h1 h2 ?_)
  exact kk p e s m args below meth c hMC hX H1 locs1 lsA a1 a2 hl (Nat.le_trans h1 hs.1.1) (Nat.le_trans h2 hs.1.2)
theorem P.callI {mi : MI} {k idx b n1 : Nat} {As rest : List Value} {σ1 : SS} (hs : Spec G mi (.ref (ad G b) :: As) n σ none n1 σ1) (hM : MOI mi k) (hf : Fits K mi n1) (hlen : As.length = k) (hlink : Cond.methodLink own idx mi.1 ∈ lw_tbl)
    (hst : st = As.reverse ++ .ref (ad G b) :: rest) (hroom : (rest.map fun v => v.category).sum ≤ 8) (hd : decode cc pc = .ok (.invokespecial idx, 3))
    (kk : P G own cc nL K (pc + 3) ls rest n1 σ1) : P G own cc nL K pc ls st n σ := by
  intro p e s m args below meth c hMC hX H locs lsA hH hS hl h1 h2
  obtain ⟨⟨hcode, hini, hdd, -, -⟩, hnm, hinst, hret⟩ := id hM
  have hts := hMC.2.2.2.2.1
  have hKl := hMC.2.2.2.2.2.1
  have hw : mws mi = Cond.code mi.1 mi.2.1 mi.2.2.1 none :: gtbl := by rw [← hret]; rfl
  have hrun := va_runI (meth := meth) (below := below) (locs := locs) (l := G.1) (e := e) (R := K.1) (cells := n - K.2.1) (slots := szs n - szs K.2.1) (As := As) (rest := rest) (g := F0 m pc lsA st) ⟨hMC.1, hMC.2.1, hMC.2.2.1, hMC.2.2.2.1, hts⟩ hs.2 (cwI k hts (mws_good mi hcode) hw rfl rfl (hts _ (tog hini rfl)) (hts _ (tog hlink rfl)) (hts _ (tog hinst rfl)) hnm hdd (fit_of hf hM.1))
    ⟨Wd.blind, fun U hU hW => ⟨rfl, by rw [hU]; exact hH, hKl.moved hW⟩⟩ rfl hlen hl.1 hst (lv_room hroom) hd (room_fix hf hs.1 h1 h2)
  refine runW hrun hS (fun H1 locs1 a1 a2 => tail_fix hs.1 h1 h2 ?_)
  exact kk p e s m args below meth c hMC hX H1 locs1 lsA a1 a2 hl (Nat.le_trans h1 hs.1.1) (Nat.le_trans h2 hs.1.2)
theorem P.callIN {mi : MI} {k idx b n1 : Nat} {As rest : List Value} {σ1 : SS} {host : String} (hs : Spec G mi (.ref (ad G b) :: As) n σ none n1 σ1) (hM : MOI mi k) (hf : Fits K mi n1) (hlen : As.length = k) (hlink : Cond.methodLinkNest own idx mi.1 host ∈ lw_tbl)
    (hst : st = As.reverse ++ .ref (ad G b) :: rest) (hroom : (rest.map fun v => v.category).sum ≤ 8) (hd : decode cc pc = .ok (.invokespecial idx, 3))
    (kk : P G own cc nL K (pc + 3) ls rest n1 σ1) : P G own cc nL K pc ls st n σ := by
  intro p e s m args below meth c hMC hX H locs lsA hH hS hl h1 h2
  obtain ⟨⟨hcode, hini, hdd, -, -⟩, hnm, hinst, hret⟩ := id hM
  have hts := hMC.2.2.2.2.1
  have hKl := hMC.2.2.2.2.2.1
  have hw : mws mi = Cond.code mi.1 mi.2.1 mi.2.2.1 none :: gtbl := by rw [← hret]; rfl
  have hrun := va_runIN (meth := meth) (below := below) (locs := locs) (l := G.1) (e := e) (R := K.1) (cells := n - K.2.1) (slots := szs n - szs K.2.1) (As := As) (rest := rest) (g := F0 m pc lsA st) ⟨hMC.1, hMC.2.1, hMC.2.2.1, hMC.2.2.2.1, hts⟩ hs.2 ⟨va_cnB k hts (mws_good mi hcode) hw rfl rfl (hKl.2.1 _ (List.mem_filter.mpr ⟨hlink, rfl⟩)) (hts _ (tog hini rfl)) hdd (fit_of hf hM.1), hnm, hts _ (tog hinst rfl)⟩
    ⟨Wd.blind, fun U hU hW => ⟨rfl, by rw [hU]; exact hH, hKl.moved hW⟩⟩ rfl hlen hl.1 hst (lv_room hroom) hd (room_fix hf hs.1 h1 h2)
  refine runW hrun hS (fun H1 locs1 a1 a2 => tail_fix hs.1 h1 h2 ?_)
  exact kk p e s m args below meth c hMC hX H1 locs1 lsA a1 a2 hl (Nat.le_trans h1 hs.1.1) (Nat.le_trans h2 hs.1.2)
theorem P.objInit {idx b : Nat} (hlink : Cond.methodLink own idx Lib.objectInit ∈ lw_tbl) (hf : 1 ≤ K.1.frames ∧ 20 ≤ K.1.locals) (hroom : (st.map fun v => v.category).sum ≤ 8) (hd : decode cc pc = .ok (.invokespecial idx, 3))
    (kk : P G own cc nL K (pc + 3) ls st n σ) : P G own cc nL K pc ls (.ref (ad G b) :: st) n σ := by
  intro p e s m args below meth c hMC hX H locs lsA hH hS hl h1 h2
  have hts := hMC.2.2.2.2.1
  exact W.objInit hMC.1 hMC.2.1 hMC.2.2.2.1 (hts _ (tog hlink rfl)) (hts _ (tog im_Obj rfl)) (hts _ (tog cd_Obj rfl)) rfl (hl.1.trans hMC.2.2.1.symm) rfl hd hf.1 (by
    have h3 := hf.2
    show 2 * 0 + _ + 12 ≤ _
    omega) (kk p e s m args below meth c hMC hX H locs lsA hH hS hl h1 h2)
end PCALL
-- the end of a method
section PRET
variable {G : GG} {own : String} {cc : ByteArray} {nL : Nat} {mi : MI} {n0 : Nat} {pc : Nat} {ls : List (Option Value)} {n : Nat} {σ : SS}
theorem P.zret {x y : Int32} {σ1 : SS} {ty : FieldType} (hr : mi.2.2.2.1 = some ty) (hn : narrow ty (.int x) = .int x) (hd : decode cc pc = .ok (.ireturn, 1)) (hxy : x = y) (hσ : σ = σ1) : P G own cc nL (KM G mi n0 n (some (.int y)) σ1) pc ls [.int x] n σ := by
  subst hxy hσ
  intro p e s m args below meth c hMC hX H locs lsA hH hS hl h1 h2
  exact W.zret (free := A0 G) hMC.1 hMC.2.1 (hX.1.trans hr) hn (fun t ht hW => ⟨rfl, by rw [ht]; exact hH, hS.F ht⟩) hS.2.2 hd hMC.2.2.2.2.2.2.1
theorem P.iret {x y : Int32} {σ1 : SS} (hr : mi.2.2.2.1 = some .int) (hd : decode cc pc = .ok (.ireturn, 1)) (hxy : x = y) (hσ : σ = σ1) : P G own cc nL (KM G mi n0 n (some (.int y)) σ1) pc ls [.int x] n σ := P.zret hr rfl hd hxy hσ
theorem narrow_bI (b : Bool) : narrow .boolean (.int (bI b)) = .int (bI b) := by cases b <;> rfl
theorem P.bret {x : Int32} {b : Bool} {σ1 : SS} (hr : mi.2.2.2.1 = some .boolean) (hd : decode cc pc = .ok (.ireturn, 1)) (hxy : x = bI b) (hσ : σ = σ1) : P G own cc nL (KM G mi n0 n (some (.int (bI b))) σ1) pc ls [.int x] n σ := P.zret hr (by rw [hxy]; exact narrow_bI b) hd hxy hσ
theorem P.lret {x y : Int64} {σ1 : SS} (hr : mi.2.2.2.1 = some .long) (hd : decode cc pc = .ok (.lreturn, 1)) (hxy : x = y) (hσ : σ = σ1) : P G own cc nL (KM G mi n0 n (some (.long y)) σ1) pc ls [.long x] n σ := by
  subst hxy hσ
  intro p e s m args below meth c hMC hX H locs lsA hH hS hl h1 h2
  exact W.lret (free := A0 G) hMC.1 hMC.2.1 (hX.1.trans hr) (fun t ht hW => ⟨rfl, by rw [ht]; exact hH, hS.F ht⟩) hS.2.2 hd hMC.2.2.2.2.2.2.1
theorem P.vret {σ1 : SS} (hr : mi.2.2.2.1 = none) (hd : decode cc pc = .ok (.return_, 1)) (hσ : σ = σ1) : P G own cc nL (KM G mi n0 n none σ1) pc ls [] n σ := by
  subst hσ
  intro p e s m args below meth c hMC hX H locs lsA hH hS hl h1 h2
  exact W.vret (free := A0 G) hMC.1 hMC.2.1 (hX.1.trans hr) (fun t ht hW => ⟨rfl, by rw [ht]; exact hH, hS.F ht⟩) hS.2.2 hd hMC.2.2.2.2.2.2.1
theorem P.aret {a b : Nat} {C : String} {σ1 : SS} (hr : mi.2.2.2.1 = some (.object C)) (hd : decode cc pc = .ok (.areturn, 1)) (hab : a = b) (hσ : σ = σ1) : P G own cc nL (KM G mi n0 n (some (.ref (ad G b))) σ1) pc ls [.ref (ad G a)] n σ := by
  subst hab hσ
  intro p e s m args below meth c hMC hX H locs lsA hH hS hl h1 h2
  exact W.aret (free := A0 G) hMC.1 hMC.2.1 (hX.1.trans hr) (Or.inl ⟨_, rfl⟩) (Or.inr ⟨_, rfl⟩) (fun t ht hW => ⟨rfl, by rw [ht]; exact hH, hS.F ht⟩) hS.2.2 hd hMC.2.2.2.2.2.2.1
end PRET
def ents : Nat → List Value → List (Option Value)
  | nL, [] => List.replicate nL none
  | nL, v :: vs => match v with
    | .long _ => some v :: none :: ents (nL - 2) vs
    | .double _ => some v :: none :: ents (nL - 2) vs
    | _ => some v :: ents (nL - 1) vs
theorem lvl_rep : ∀ (k i : Nat), lvl i (List.replicate k none) = []
  | 0, _ => rfl
  | k + 1, i => by rw [List.replicate_succ]; exact lvl_rep k (i + 1)
theorem ents_args : ∀ (vs : List Value) (nL i : Nat), lvl i (ents nL vs) = lv_args i vs
  | [], nL, i => by simp only [ents, lvl_rep, lv_args]
  | v :: vs, nL, i => by
    cases v <;> simp only [ents, lvl, lv_args, Value.category, ents_args vs] <;> rfl
theorem Spec.of {G : GG} {mi : MI} {k : Nat} {as : List Value} {n0 n1 : Nat} {σ0 σ1 : SS} {r : Option Value} (hM : MOK mi k) (hh : n0 ≤ n1 ∧ szs n0 ≤ szs n1) (hsl : (lg_sl as).length ≤ mi.2.2.1) (h : P G mi.1.cls mi.2.1 mi.2.2.1 (KM G mi n0 n1 r σ1) 0 (ents mi.2.2.1 as) [] n0 σ0) : Spec G mi as n0 σ0 r n1 σ1 := by
  refine ⟨hh, Met.ofW (cc := mi.2.1) (maxL := mi.2.2.1) (ret := mi.2.2.2.1) hM.2.2.2.2 rfl ?_⟩
  intro p e s m args below meth c s₁ B hml hv
  obtain ⟨rfl, hHp, hKl⟩ := hv
  have hts : ∀ w ∈ mws mi, w.before as.toArray s = true := atoms_spec (ws := mws mi) B.pre
  have hown : s.vm.findClass mi.1.cls = some m.cls := findClass_of_methodNamed B.named
  have hin : meth.name = mi.1.name := (name_of_methodNamed B.named B.method).1
  rw [lg_entry_eq]
  have hl := lv_entry as (n := mi.2.2.1) hsl
  generalize (lg_sl as ++ List.replicate (mi.2.2.1 - (lg_sl as).length) Slot.unset).toArray = lsA at hl ⊢
  rw [← ents_args as mi.2.2.1 0] at hl
  have hb0 : G.2.2.2 ≤ s.heap.size := by rw [hHp.1]; exact Nat.le_add_right _ _
  have h0 := h p e s m as.toArray below meth c ⟨B.exec, B.bytes, hml, hown, fun w hw => hts w (List.mem_cons_of_mem _ hw), hKl, B.notSynchronized, hb0⟩ ⟨B.returns, hin⟩ s.heap [] lsA hHp va_S.rf hl (Nat.le_refl _) (Nat.le_refl _)
  have e1 : n0 - (KM G mi n0 n1 r σ1).2.1 = 0 := Nat.sub_self _
  have e2 : szs n0 - szs (KM G mi n0 n1 r σ1).2.1 = 0 := Nat.sub_self _
  rw [e1, e2] at h0
  exact h0
end
