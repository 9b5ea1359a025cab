-- ===== PART A: goes FIRST, ahead of the names: the tables' words, and 'selects' of the private methods out of them =====
/-- a private method of a class that the tables say can be made, by its rows of tables_1 -/
def lw_okq (q : MethodName × Nat) : Prop := (q.1.cls ≠ "java/lang/invoke/MethodHandle" ∧ q.1.cls ≠ "java/lang/invoke/VarHandle") ∧ Cond.instantiable q.1.cls q.2 ∈ tables_1 ∧ Cond.privateMethod q.1 ∈ tables_1 ∧ Cond.instanceMethod q.1 ∈ tables_1
theorem lw_p0 : lw_okq (⟨"CleaningBench", "found", "(I)I"⟩, 6) := ⟨⟨by decide +kernel, by decide +kernel⟩, List.mem_of_getElem? (i := 14) (by decide +kernel), List.mem_of_getElem? (i := 306) (by decide +kernel), List.mem_of_getElem? (i := 307) (by decide +kernel)⟩
theorem lw_p1 : lw_okq (⟨"CleaningBench", "faultOfTable", "(I)I"⟩, 6) := ⟨⟨by decide +kernel, by decide +kernel⟩, List.mem_of_getElem? (i := 14) (by decide +kernel), List.mem_of_getElem? (i := 321) (by decide +kernel), List.mem_of_getElem? (i := 322) (by decide +kernel)⟩
theorem lw_p2 : lw_okq (⟨"CleaningBench", "faultOfCell", "(II)I"⟩, 6) := ⟨⟨by decide +kernel, by decide +kernel⟩, List.mem_of_getElem? (i := 14) (by decide +kernel), List.mem_of_getElem? (i := 336) (by decide +kernel), List.mem_of_getElem? (i := 337) (by decide +kernel)⟩
theorem lw_p3 : lw_okq (⟨"CleaningBench", "isRow", "(I)Z"⟩, 6) := ⟨⟨by decide +kernel, by decide +kernel⟩, List.mem_of_getElem? (i := 14) (by decide +kernel), List.mem_of_getElem? (i := 340) (by decide +kernel), List.mem_of_getElem? (i := 341) (by decide +kernel)⟩
theorem lw_p4 : lw_okq (⟨"CleaningBench", "faultOfColumn", "(II)I"⟩, 6) := ⟨⟨by decide +kernel, by decide +kernel⟩, List.mem_of_getElem? (i := 14) (by decide +kernel), List.mem_of_getElem? (i := 344) (by decide +kernel), List.mem_of_getElem? (i := 345) (by decide +kernel)⟩
theorem lw_p5 : lw_okq (⟨"CleaningBench", "faultOfColumnIn", "(II)I"⟩, 6) := ⟨⟨by decide +kernel, by decide +kernel⟩, List.mem_of_getElem? (i := 14) (by decide +kernel), List.mem_of_getElem? (i := 391) (by decide +kernel), List.mem_of_getElem? (i := 392) (by decide +kernel)⟩
theorem lw_p6 : lw_okq (⟨"CleaningBench", "isLaw", "(I)Z"⟩, 6) := ⟨⟨by decide +kernel, by decide +kernel⟩, List.mem_of_getElem? (i := 14) (by decide +kernel), List.mem_of_getElem? (i := 410) (by decide +kernel), List.mem_of_getElem? (i := 411) (by decide +kernel)⟩
theorem lw_p7 : lw_okq (⟨"CleaningBench", "faultOfPart", "(II)I"⟩, 6) := ⟨⟨by decide +kernel, by decide +kernel⟩, List.mem_of_getElem? (i := 14) (by decide +kernel), List.mem_of_getElem? (i := 627) (by decide +kernel), List.mem_of_getElem? (i := 628) (by decide +kernel)⟩
theorem lw_p8 : lw_okq (⟨"CleaningBench", "isPart", "(I)Z"⟩, 6) := ⟨⟨by decide +kernel, by decide +kernel⟩, List.mem_of_getElem? (i := 14) (by decide +kernel), List.mem_of_getElem? (i := 631) (by decide +kernel), List.mem_of_getElem? (i := 632) (by decide +kernel)⟩
theorem lw_p9 : lw_okq (⟨"CleaningBench", "timesStanding", "()I"⟩, 6) := ⟨⟨by decide +kernel, by decide +kernel⟩, List.mem_of_getElem? (i := 14) (by decide +kernel), List.mem_of_getElem? (i := 680) (by decide +kernel), List.mem_of_getElem? (i := 681) (by decide +kernel)⟩
theorem lw_p10 : lw_okq (⟨"CleaningBench", "manyTables", "()I"⟩, 6) := ⟨⟨by decide +kernel, by decide +kernel⟩, List.mem_of_getElem? (i := 14) (by decide +kernel), List.mem_of_getElem? (i := 706) (by decide +kernel), List.mem_of_getElem? (i := 707) (by decide +kernel)⟩
theorem lw_p11 : lw_okq (⟨"CleaningBenchModel", "finds", "(I)I"⟩, 36) := ⟨⟨by decide +kernel, by decide +kernel⟩, List.mem_of_getElem? (i := 710) (by decide +kernel), List.mem_of_getElem? (i := 833) (by decide +kernel), List.mem_of_getElem? (i := 834) (by decide +kernel)⟩
theorem lw_p12 : lw_okq (⟨"CleaningBenchModel", "lack", "(I)I"⟩, 36) := ⟨⟨by decide +kernel, by decide +kernel⟩, List.mem_of_getElem? (i := 710) (by decide +kernel), List.mem_of_getElem? (i := 841) (by decide +kernel), List.mem_of_getElem? (i := 842) (by decide +kernel)⟩
theorem lw_p13 : lw_okq (⟨"CleaningBenchModel", "noRow", "(I)Z"⟩, 36) := ⟨⟨by decide +kernel, by decide +kernel⟩, List.mem_of_getElem? (i := 710) (by decide +kernel), List.mem_of_getElem? (i := 850) (by decide +kernel), List.mem_of_getElem? (i := 851) (by decide +kernel)⟩
theorem lw_p14 : lw_okq (⟨"CleaningBenchModel", "noColumn", "(II)Z"⟩, 36) := ⟨⟨by decide +kernel, by decide +kernel⟩, List.mem_of_getElem? (i := 710) (by decide +kernel), List.mem_of_getElem? (i := 854) (by decide +kernel), List.mem_of_getElem? (i := 855) (by decide +kernel)⟩
theorem lw_p15 : lw_okq (⟨"CleaningBenchModel", "add", "(IIIIIJJ)I"⟩, 36) := ⟨⟨by decide +kernel, by decide +kernel⟩, List.mem_of_getElem? (i := 710) (by decide +kernel), List.mem_of_getElem? (i := 896) (by decide +kernel), List.mem_of_getElem? (i := 897) (by decide +kernel)⟩
def lw_privs_1 : List (MethodName × Nat) := [(⟨"CleaningBench", "found", "(I)I"⟩, 6), (⟨"CleaningBench", "faultOfTable", "(I)I"⟩, 6), (⟨"CleaningBench", "faultOfCell", "(II)I"⟩, 6), (⟨"CleaningBench", "isRow", "(I)Z"⟩, 6), (⟨"CleaningBench", "faultOfColumn", "(II)I"⟩, 6), (⟨"CleaningBench", "faultOfColumnIn", "(II)I"⟩, 6), (⟨"CleaningBench", "isLaw", "(I)Z"⟩, 6), (⟨"CleaningBench", "faultOfPart", "(II)I"⟩, 6), (⟨"CleaningBench", "isPart", "(I)Z"⟩, 6), (⟨"CleaningBench", "timesStanding", "()I"⟩, 6), (⟨"CleaningBench", "manyTables", "()I"⟩, 6), (⟨"CleaningBenchModel", "finds", "(I)I"⟩, 36), (⟨"CleaningBenchModel", "lack", "(I)I"⟩, 36), (⟨"CleaningBenchModel", "noRow", "(I)Z"⟩, 36), (⟨"CleaningBenchModel", "noColumn", "(II)Z"⟩, 36), (⟨"CleaningBenchModel", "add", "(IIIIIJJ)I"⟩, 36)]
theorem lw_r1 : ∀ q ∈ lw_privs_1, lw_okq q := List.forall_mem_cons.mpr ⟨lw_p0, List.forall_mem_cons.mpr ⟨lw_p1, List.forall_mem_cons.mpr ⟨lw_p2, List.forall_mem_cons.mpr ⟨lw_p3, List.forall_mem_cons.mpr ⟨lw_p4, List.forall_mem_cons.mpr ⟨lw_p5, List.forall_mem_cons.mpr ⟨lw_p6, List.forall_mem_cons.mpr ⟨lw_p7, List.forall_mem_cons.mpr ⟨lw_p8, List.forall_mem_cons.mpr ⟨lw_p9, List.forall_mem_cons.mpr ⟨lw_p10, List.forall_mem_cons.mpr ⟨lw_p11, List.forall_mem_cons.mpr ⟨lw_p12, List.forall_mem_cons.mpr ⟨lw_p13, List.forall_mem_cons.mpr ⟨lw_p14, List.forall_mem_cons.mpr ⟨lw_p15, fun _ h => absurd h List.not_mem_nil⟩⟩⟩⟩⟩⟩⟩⟩⟩⟩⟩⟩⟩⟩⟩⟩
theorem lw_p16 : lw_okq (⟨"CleaningBenchModel", "noLaw", "(I)Z"⟩, 36) := ⟨⟨by decide +kernel, by decide +kernel⟩, List.mem_of_getElem? (i := 710) (by decide +kernel), List.mem_of_getElem? (i := 908) (by decide +kernel), List.mem_of_getElem? (i := 909) (by decide +kernel)⟩
theorem lw_p17 : lw_okq (⟨"CleaningBenchModel", "findQuarrels", "(I)V"⟩, 36) := ⟨⟨by decide +kernel, by decide +kernel⟩, List.mem_of_getElem? (i := 710) (by decide +kernel), List.mem_of_getElem? (i := 920) (by decide +kernel), List.mem_of_getElem? (i := 921) (by decide +kernel)⟩
theorem lw_p18 : lw_okq (⟨"CleaningBenchModel", "keptSet", "()I"⟩, 36) := ⟨⟨by decide +kernel, by decide +kernel⟩, List.mem_of_getElem? (i := 710) (by decide +kernel), List.mem_of_getElem? (i := 924) (by decide +kernel), List.mem_of_getElem? (i := 925) (by decide +kernel)⟩
theorem lw_p19 : lw_okq (⟨"CleaningBenchModel", "isLeastSum", "(II)Z"⟩, 36) := ⟨⟨by decide +kernel, by decide +kernel⟩, List.mem_of_getElem? (i := 710) (by decide +kernel), List.mem_of_getElem? (i := 931) (by decide +kernel), List.mem_of_getElem? (i := 932) (by decide +kernel)⟩
theorem lw_p20 : lw_okq (⟨"CleaningBenchModel", "isOf", "(III)Z"⟩, 36) := ⟨⟨by decide +kernel, by decide +kernel⟩, List.mem_of_getElem? (i := 710) (by decide +kernel), List.mem_of_getElem? (i := 935) (by decide +kernel), List.mem_of_getElem? (i := 936) (by decide +kernel)⟩
theorem lw_p21 : lw_okq (⟨"CleaningBenchModel", "counts", "(II)Z"⟩, 36) := ⟨⟨by decide +kernel, by decide +kernel⟩, List.mem_of_getElem? (i := 710) (by decide +kernel), List.mem_of_getElem? (i := 939) (by decide +kernel), List.mem_of_getElem? (i := 940) (by decide +kernel)⟩
theorem lw_p22 : lw_okq (⟨"CleaningBenchModel", "isLike", "(IIII)Z"⟩, 36) := ⟨⟨by decide +kernel, by decide +kernel⟩, List.mem_of_getElem? (i := 710) (by decide +kernel), List.mem_of_getElem? (i := 943) (by decide +kernel), List.mem_of_getElem? (i := 944) (by decide +kernel)⟩
theorem lw_p23 : lw_okq (⟨"CleaningBenchModel", "isMore", "(IIII)Z"⟩, 36) := ⟨⟨by decide +kernel, by decide +kernel⟩, List.mem_of_getElem? (i := 710) (by decide +kernel), List.mem_of_getElem? (i := 947) (by decide +kernel), List.mem_of_getElem? (i := 948) (by decide +kernel)⟩
theorem lw_p24 : lw_okq (⟨"CleaningBenchModel", "breaksLaw", "(II)Z"⟩, 36) := ⟨⟨by decide +kernel, by decide +kernel⟩, List.mem_of_getElem? (i := 710) (by decide +kernel), List.mem_of_getElem? (i := 951) (by decide +kernel), List.mem_of_getElem? (i := 952) (by decide +kernel)⟩
theorem lw_p25 : lw_okq (⟨"CleaningBenchModel", "breakOne", "(III)Z"⟩, 36) := ⟨⟨by decide +kernel, by decide +kernel⟩, List.mem_of_getElem? (i := 710) (by decide +kernel), List.mem_of_getElem? (i := 955) (by decide +kernel), List.mem_of_getElem? (i := 956) (by decide +kernel)⟩
theorem lw_p26 : lw_okq (⟨"CleaningBenchModel", "breakTwo", "(III)Z"⟩, 36) := ⟨⟨by decide +kernel, by decide +kernel⟩, List.mem_of_getElem? (i := 710) (by decide +kernel), List.mem_of_getElem? (i := 959) (by decide +kernel), List.mem_of_getElem? (i := 960) (by decide +kernel)⟩
theorem lw_p27 : lw_okq (⟨"CleaningBenchModel", "firstBroken", "(I)I"⟩, 36) := ⟨⟨by decide +kernel, by decide +kernel⟩, List.mem_of_getElem? (i := 710) (by decide +kernel), List.mem_of_getElem? (i := 971) (by decide +kernel), List.mem_of_getElem? (i := 972) (by decide +kernel)⟩
theorem lw_p28 : lw_okq (⟨"CleaningBenchModel", "know", "()V"⟩, 36) := ⟨⟨by decide +kernel, by decide +kernel⟩, List.mem_of_getElem? (i := 710) (by decide +kernel), List.mem_of_getElem? (i := 983) (by decide +kernel), List.mem_of_getElem? (i := 984) (by decide +kernel)⟩
theorem lw_p29 : lw_okq (⟨"CleaningBenchModel", "bestOf", "()I"⟩, 36) := ⟨⟨by decide +kernel, by decide +kernel⟩, List.mem_of_getElem? (i := 710) (by decide +kernel), List.mem_of_getElem? (i := 995) (by decide +kernel), List.mem_of_getElem? (i := 996) (by decide +kernel)⟩
theorem lw_p30 : lw_okq (⟨"CleaningBenchModel", "priceOf", "(I)I"⟩, 36) := ⟨⟨by decide +kernel, by decide +kernel⟩, List.mem_of_getElem? (i := 710) (by decide +kernel), List.mem_of_getElem? (i := 999) (by decide +kernel), List.mem_of_getElem? (i := 1000) (by decide +kernel)⟩
theorem lw_p31 : lw_okq (⟨"CleaningBenchModel", "settled", "(III)J"⟩, 36) := ⟨⟨by decide +kernel, by decide +kernel⟩, List.mem_of_getElem? (i := 710) (by decide +kernel), List.mem_of_getElem? (i := 1023) (by decide +kernel), List.mem_of_getElem? (i := 1024) (by decide +kernel)⟩
def lw_privs_2 : List (MethodName × Nat) := [(⟨"CleaningBenchModel", "noLaw", "(I)Z"⟩, 36), (⟨"CleaningBenchModel", "findQuarrels", "(I)V"⟩, 36), (⟨"CleaningBenchModel", "keptSet", "()I"⟩, 36), (⟨"CleaningBenchModel", "isLeastSum", "(II)Z"⟩, 36), (⟨"CleaningBenchModel", "isOf", "(III)Z"⟩, 36), (⟨"CleaningBenchModel", "counts", "(II)Z"⟩, 36), (⟨"CleaningBenchModel", "isLike", "(IIII)Z"⟩, 36), (⟨"CleaningBenchModel", "isMore", "(IIII)Z"⟩, 36), (⟨"CleaningBenchModel", "breaksLaw", "(II)Z"⟩, 36), (⟨"CleaningBenchModel", "breakOne", "(III)Z"⟩, 36), (⟨"CleaningBenchModel", "breakTwo", "(III)Z"⟩, 36), (⟨"CleaningBenchModel", "firstBroken", "(I)I"⟩, 36), (⟨"CleaningBenchModel", "know", "()V"⟩, 36), (⟨"CleaningBenchModel", "bestOf", "()I"⟩, 36), (⟨"CleaningBenchModel", "priceOf", "(I)I"⟩, 36), (⟨"CleaningBenchModel", "settled", "(III)J"⟩, 36)]
theorem lw_r2 : ∀ q ∈ lw_privs_2, lw_okq q := List.forall_mem_cons.mpr ⟨lw_p16, List.forall_mem_cons.mpr ⟨lw_p17, List.forall_mem_cons.mpr ⟨lw_p18, List.forall_mem_cons.mpr ⟨lw_p19, List.forall_mem_cons.mpr ⟨lw_p20, List.forall_mem_cons.mpr ⟨lw_p21, List.forall_mem_cons.mpr ⟨lw_p22, List.forall_mem_cons.mpr ⟨lw_p23, List.forall_mem_cons.mpr ⟨lw_p24, List.forall_mem_cons.mpr ⟨lw_p25, List.forall_mem_cons.mpr ⟨lw_p26, List.forall_mem_cons.mpr ⟨lw_p27, List.forall_mem_cons.mpr ⟨lw_p28, List.forall_mem_cons.mpr ⟨lw_p29, List.forall_mem_cons.mpr ⟨lw_p30, List.forall_mem_cons.mpr ⟨lw_p31, fun _ h => absurd h List.not_mem_nil⟩⟩⟩⟩⟩⟩⟩⟩⟩⟩⟩⟩⟩⟩⟩⟩
theorem lw_p32 : lw_okq (⟨"CleaningBenchModel", "noPart", "(I)Z"⟩, 36) := ⟨⟨by decide +kernel, by decide +kernel⟩, List.mem_of_getElem? (i := 710) (by decide +kernel), List.mem_of_getElem? (i := 1039) (by decide +kernel), List.mem_of_getElem? (i := 1040) (by decide +kernel)⟩
theorem lw_p33 : lw_okq (⟨"CleaningBenchModel", "standsIn", "(I)Z"⟩, 36) := ⟨⟨by decide +kernel, by decide +kernel⟩, List.mem_of_getElem? (i := 710) (by decide +kernel), List.mem_of_getElem? (i := 1051) (by decide +kernel), List.mem_of_getElem? (i := 1052) (by decide +kernel)⟩
theorem lw_p34 : lw_okq (⟨"CleaningBenchModel", "fitsPart", "(III)Z"⟩, 36) := ⟨⟨by decide +kernel, by decide +kernel⟩, List.mem_of_getElem? (i := 710) (by decide +kernel), List.mem_of_getElem? (i := 1055) (by decide +kernel), List.mem_of_getElem? (i := 1056) (by decide +kernel)⟩
theorem lw_p35 : lw_okq (⟨"CleaningBenchModel", "oftenOf", "()I"⟩, 36) := ⟨⟨by decide +kernel, by decide +kernel⟩, List.mem_of_getElem? (i := 710) (by decide +kernel), List.mem_of_getElem? (i := 1063) (by decide +kernel), List.mem_of_getElem? (i := 1064) (by decide +kernel)⟩
def lw_privs_3 : List (MethodName × Nat) := [(⟨"CleaningBenchModel", "noPart", "(I)Z"⟩, 36), (⟨"CleaningBenchModel", "standsIn", "(I)Z"⟩, 36), (⟨"CleaningBenchModel", "fitsPart", "(III)Z"⟩, 36), (⟨"CleaningBenchModel", "oftenOf", "()I"⟩, 36)]
theorem lw_r3 : ∀ q ∈ lw_privs_3, lw_okq q := List.forall_mem_cons.mpr ⟨lw_p32, List.forall_mem_cons.mpr ⟨lw_p33, List.forall_mem_cons.mpr ⟨lw_p34, List.forall_mem_cons.mpr ⟨lw_p35, fun _ h => absurd h List.not_mem_nil⟩⟩⟩⟩
def lw_privs : List (MethodName × Nat) := lw_privs_1 ++ (lw_privs_2 ++ (lw_privs_3))
def lw_tbl : List Cond := k2_sels lw_privs ++ tables_1
theorem lw_privs_ok : ∀ q ∈ lw_privs, lw_okq q := by
  show ∀ q ∈ lw_privs_1 ++ (lw_privs_2 ++ (lw_privs_3)), lw_okq q
  exact List.forall_mem_append.mpr ⟨lw_r1, List.forall_mem_append.mpr ⟨lw_r2, lw_r3⟩⟩

-- names, fields, the words of the tables by their places: by program (wip/whole/gen01.py) out of the claim's printed texts
def RX0 : String := "CleaningBench$Join"
def TX0 : u_T := fun k => match k with
  | 0 => ("CleaningBench$Join", "p", "I", false)
  | 1 => ("CleaningBench$Join", "c", "I", false)
  | 2 => ("CleaningBench$Join", "q", "I", false)
  | _ => ("CleaningBench$Join", "d", "I", false)
def tyX0 : Nat → FieldType := fun k => match k with
  | 0 => .int
  | 1 => .int
  | 2 => .int
  | _ => .int
abbrev wsX00 : List Cond := u_ws RX0 TX0 4
theorem nmX0 : ∀ a, a < 4 → ∀ b, b < 4 → a ≠ b → (TX0 a).2.1 ≠ (TX0 b).2.1 := by decide +kernel
theorem tyX0_ok : ∀ k, k < 4 → parseFieldDescriptor (TX0 k).2.2.1 = some (tyX0 k) := by decide +kernel
abbrev cX0_init : ByteArray := prog_2_method_1_code
def yX0_init : MethodName := ⟨RX0, "<init>", "()V"⟩
def RX1 : String := "CleaningBench$Law"
def TX1 : u_T := fun k => match k with
  | 0 => ("CleaningBench$Law", "kind", "I", false)
  | 1 => ("CleaningBench$Law", "table", "I", false)
  | 2 => ("CleaningBench$Law", "first", "I", false)
  | 3 => ("CleaningBench$Law", "second", "I", false)
  | 4 => ("CleaningBench$Law", "other", "I", false)
  | 5 => ("CleaningBench$Law", "c", "J", false)
  | 6 => ("CleaningBench$Law", "d", "J", false)
  | _ => ("CleaningBench$Law", "inForce", "Z", false)
def tyX1 : Nat → FieldType := fun k => match k with
  | 0 => .int
  | 1 => .int
  | 2 => .int
  | 3 => .int
  | 4 => .int
  | 5 => .long
  | 6 => .long
  | _ => .boolean
abbrev wsX10 : List Cond := u_ws RX1 TX1 8
theorem nmX1 : ∀ a, a < 8 → ∀ b, b < 8 → a ≠ b → (TX1 a).2.1 ≠ (TX1 b).2.1 := by decide +kernel
theorem tyX1_ok : ∀ k, k < 8 → parseFieldDescriptor (TX1 k).2.2.1 = some (tyX1 k) := by decide +kernel
abbrev cX1_init : ByteArray := prog_3_method_1_code
def yX1_init : MethodName := ⟨RX1, "<init>", "()V"⟩
def RX2 : String := "CleaningBench$Laws"
def TX2 : u_T := fun k => match k with
  | 0 => ("CleaningBench$Laws", "rows", "LCleaningBench$Rows;", true)
  | 1 => ("CleaningBench$Laws", "list", "[LCleaningBench$Law;", true)
  | 2 => ("CleaningBench$Laws", "many", "I", false)
  | 3 => ("CleaningBench$Laws", "found", "[I", true)
  | _ => ("CleaningBench$Laws", "manyFound", "I", false)
def tyX2 : Nat → FieldType := fun k => match k with
  | 0 => .object "CleaningBench$Rows"
  | 1 => .array (.object "CleaningBench$Law")
  | 2 => .int
  | 3 => .array .int
  | _ => .int
abbrev wsX20 : List Cond := u_ws RX2 TX2 5
theorem nmX2 : ∀ a, a < 5 → ∀ b, b < 5 → a ≠ b → (TX2 a).2.1 ≠ (TX2 b).2.1 := by decide +kernel
theorem tyX2_ok : ∀ k, k < 5 → parseFieldDescriptor (TX2 k).2.2.1 = some (tyX2 k) := by decide +kernel
abbrev cX2_init : ByteArray := prog_4_method_1_code
def yX2_init : MethodName := ⟨RX2, "<init>", "(LCleaningBench$Rows;)V"⟩
abbrev cX2_add : ByteArray := prog_4_method_2_code
def yX2_add : MethodName := ⟨RX2, "add", "(II)LCleaningBench$Law;"⟩
abbrev cX2_leastBroken : ByteArray := prog_4_method_3_code
def yX2_leastBroken : MethodName := ⟨RX2, "leastBroken", "(I)I"⟩
abbrev cX2_find : ByteArray := prog_4_method_4_code
def yX2_find : MethodName := ⟨RX2, "find", "(LCleaningBench$Law;I)V"⟩
abbrev cX2_addFound : ByteArray := prog_4_method_5_code
def yX2_addFound : MethodName := ⟨RX2, "addFound", "(I)V"⟩
abbrev cX2_findSingles : ByteArray := prog_4_method_6_code
def yX2_findSingles : MethodName := ⟨RX2, "findSingles", "(LCleaningBench$Law;I)V"⟩
abbrev cX2_quarrelsAlone : ByteArray := prog_4_method_7_code
def yX2_quarrelsAlone : MethodName := ⟨RX2, "quarrelsAlone", "(LCleaningBench$Law;LCleaningBench$Row;)Z"⟩
abbrev cX2_findUnhelped : ByteArray := prog_4_method_8_code
def yX2_findUnhelped : MethodName := ⟨RX2, "findUnhelped", "(LCleaningBench$Law;I)V"⟩
abbrev cX2_findPairs : ByteArray := prog_4_method_9_code
def yX2_findPairs : MethodName := ⟨RX2, "findPairs", "(LCleaningBench$Law;I)V"⟩
abbrev cX2_quarrelTogether : ByteArray := prog_4_method_10_code
def yX2_quarrelTogether : MethodName := ⟨RX2, "quarrelTogether", "(LCleaningBench$Law;LCleaningBench$Row;LCleaningBench$Row;)Z"⟩
abbrev cX2_areNearer : ByteArray := prog_4_method_11_code
def yX2_areNearer : MethodName := ⟨RX2, "areNearer", "(JJJ)Z"⟩
abbrev cX2_findSums : ByteArray := prog_4_method_12_code
def yX2_findSums : MethodName := ⟨RX2, "findSums", "(LCleaningBench$Law;I)V"⟩
abbrev cX2_isLeastSum : ByteArray := prog_4_method_13_code
def yX2_isLeastSum : MethodName := ⟨RX2, "isLeastSum", "(LCleaningBench$Law;II)Z"⟩
def RX3 : String := "CleaningBench$Mendings"
def TX3 : u_T := fun k => match k with
  | 0 => ("CleaningBench$Mendings", "rows", "LCleaningBench$Rows;", true)
  | 1 => ("CleaningBench$Mendings", "laws", "LCleaningBench$Laws;", true)
  | 2 => ("CleaningBench$Mendings", "least", "[I", true)
  | 3 => ("CleaningBench$Mendings", "many", "I", false)
  | 4 => ("CleaningBench$Mendings", "kept", "I", false)
  | 5 => ("CleaningBench$Mendings", "broken", "[Z", true)
  | _ => ("CleaningBench$Mendings", "covers", "[Z", true)
def tyX3 : Nat → FieldType := fun k => match k with
  | 0 => .object "CleaningBench$Rows"
  | 1 => .object "CleaningBench$Laws"
  | 2 => .array .int
  | 3 => .int
  | 4 => .int
  | 5 => .array .boolean
  | _ => .array .boolean
abbrev wsX30 : List Cond := u_ws RX3 TX3 7
theorem nmX3 : ∀ a, a < 7 → ∀ b, b < 7 → a ≠ b → (TX3 a).2.1 ≠ (TX3 b).2.1 := by decide +kernel
theorem tyX3_ok : ∀ k, k < 7 → parseFieldDescriptor (TX3 k).2.2.1 = some (tyX3 k) := by decide +kernel
abbrev cX3_init : ByteArray := prog_5_method_1_code
def yX3_init : MethodName := ⟨RX3, "<init>", "(LCleaningBench$Rows;LCleaningBench$Laws;)V"⟩
abbrev cX3_find : ByteArray := prog_5_method_2_code
def yX3_find : MethodName := ⟨RX3, "find", "()V"⟩
abbrev cX3_isMoreThanOne : ByteArray := prog_5_method_3_code
def yX3_isMoreThanOne : MethodName := ⟨RX3, "isMoreThanOne", "(I)Z"⟩
abbrev cX3_findBroken : ByteArray := prog_5_method_4_code
def yX3_findBroken : MethodName := ⟨RX3, "findBroken", "()V"⟩
abbrev cX3_breakAmong : ByteArray := prog_5_method_5_code
def yX3_breakAmong : MethodName := ⟨RX3, "breakAmong", "(LCleaningBench$Law;)V"⟩
abbrev cX3_breakWithout : ByteArray := prog_5_method_6_code
def yX3_breakWithout : MethodName := ⟨RX3, "breakWithout", "(II)V"⟩
abbrev cX3_leftBy : ByteArray := prog_5_method_7_code
def yX3_leftBy : MethodName := ⟨RX3, "leftBy", "(I)I"⟩
abbrev cX3_cheapest : ByteArray := prog_5_method_8_code
def yX3_cheapest : MethodName := ⟨RX3, "cheapest", "()I"⟩
def RX4 : String := "CleaningBench$Part"
def TX4 : u_T := fun k => match k with
  | 0 => ("CleaningBench$Part", "told", "[Z", true)
  | 1 => ("CleaningBench$Part", "numbers", "[J", true)
  | _ => ("CleaningBench$Part", "table", "I", false)
def tyX4 : Nat → FieldType := fun k => match k with
  | 0 => .array .boolean
  | 1 => .array .long
  | _ => .int
abbrev wsX40 : List Cond := u_ws RX4 TX4 3
theorem nmX4 : ∀ a, a < 3 → ∀ b, b < 3 → a ≠ b → (TX4 a).2.1 ≠ (TX4 b).2.1 := by decide +kernel
theorem tyX4_ok : ∀ k, k < 3 → parseFieldDescriptor (TX4 k).2.2.1 = some (tyX4 k) := by decide +kernel
abbrev cX4_init : ByteArray := prog_6_method_1_code
def yX4_init : MethodName := ⟨RX4, "<init>", "()V"⟩
def RX5 : String := "CleaningBench$Question"
def TX5 : u_T := fun k => match k with
  | 0 => ("CleaningBench$Question", "rows", "LCleaningBench$Rows;", true)
  | 1 => ("CleaningBench$Question", "parts", "[LCleaningBench$Part;", true)
  | 2 => ("CleaningBench$Question", "manyParts", "I", false)
  | 3 => ("CleaningBench$Question", "joins", "[LCleaningBench$Join;", true)
  | 4 => ("CleaningBench$Question", "manyJoins", "I", false)
  | 5 => ("CleaningBench$Question", "fitting", "[I", true)
  | 6 => ("CleaningBench$Question", "tried", "[I", true)
  | _ => ("CleaningBench$Question", "standing", "[Z", true)
def tyX5 : Nat → FieldType := fun k => match k with
  | 0 => .object "CleaningBench$Rows"
  | 1 => .array (.object "CleaningBench$Part")
  | 2 => .int
  | 3 => .array (.object "CleaningBench$Join")
  | 4 => .int
  | 5 => .array .int
  | 6 => .array .int
  | _ => .array .boolean
abbrev wsX50 : List Cond := u_ws RX5 TX5 8
theorem nmX5 : ∀ a, a < 8 → ∀ b, b < 8 → a ≠ b → (TX5 a).2.1 ≠ (TX5 b).2.1 := by decide +kernel
theorem tyX5_ok : ∀ k, k < 8 → parseFieldDescriptor (TX5 k).2.2.1 = some (tyX5 k) := by decide +kernel
abbrev cX5_init : ByteArray := prog_7_method_1_code
def yX5_init : MethodName := ⟨RX5, "<init>", "(LCleaningBench$Rows;)V"⟩
abbrev cX5_clear : ByteArray := prog_7_method_2_code
def yX5_clear : MethodName := ⟨RX5, "clear", "()V"⟩
abbrev cX5_addPart : ByteArray := prog_7_method_3_code
def yX5_addPart : MethodName := ⟨RX5, "addPart", "(I)I"⟩
abbrev cX5_addJoin : ByteArray := prog_7_method_4_code
def yX5_addJoin : MethodName := ⟨RX5, "addJoin", "(IIII)I"⟩
abbrev cX5_standsIn : ByteArray := prog_7_method_5_code
def yX5_standsIn : MethodName := ⟨RX5, "standsIn", "(I)Z"⟩
abbrev cX5_findStanding : ByteArray := prog_7_method_6_code
def yX5_findStanding : MethodName := ⟨RX5, "findStanding", "(I)V"⟩
abbrev cX5_findFitting : ByteArray := prog_7_method_7_code
def yX5_findFitting : MethodName := ⟨RX5, "findFitting", "(I)V"⟩
abbrev cX5_fittingOf : ByteArray := prog_7_method_8_code
def yX5_fittingOf : MethodName := ⟨RX5, "fittingOf", "(LCleaningBench$Part;I)I"⟩
abbrev cX5_hasTold : ByteArray := prog_7_method_9_code
def yX5_hasTold : MethodName := ⟨RX5, "hasTold", "(LCleaningBench$Part;LCleaningBench$Row;)Z"⟩
abbrev cX5_manyTries : ByteArray := prog_7_method_10_code
def yX5_manyTries : MethodName := ⟨RX5, "manyTries", "()I"⟩
abbrev cX5_stood : ByteArray := prog_7_method_11_code
def yX5_stood : MethodName := ⟨RX5, "stood", "(I)Z"⟩
abbrev cX5_isJoined : ByteArray := prog_7_method_12_code
def yX5_isJoined : MethodName := ⟨RX5, "isJoined", "(LCleaningBench$Join;)Z"⟩
abbrev cX5_triedRows : ByteArray := prog_7_method_13_code
def yX5_triedRows : MethodName := ⟨RX5, "triedRows", "()I"⟩
def RX6 : String := "CleaningBench$Row"
def TX6 : u_T := fun k => match k with
  | 0 => ("CleaningBench$Row", "numbers", "[J", true)
  | 1 => ("CleaningBench$Row", "there", "[Z", true)
  | 2 => ("CleaningBench$Row", "table", "I", false)
  | 3 => ("CleaningBench$Row", "trust", "I", false)
  | _ => ("CleaningBench$Row", "kept", "Z", false)
def tyX6 : Nat → FieldType := fun k => match k with
  | 0 => .array .long
  | 1 => .array .boolean
  | 2 => .int
  | 3 => .int
  | _ => .boolean
abbrev wsX60 : List Cond := u_ws RX6 TX6 5
theorem nmX6 : ∀ a, a < 5 → ∀ b, b < 5 → a ≠ b → (TX6 a).2.1 ≠ (TX6 b).2.1 := by decide +kernel
theorem tyX6_ok : ∀ k, k < 5 → parseFieldDescriptor (TX6 k).2.2.1 = some (tyX6 k) := by decide +kernel
abbrev cX6_init : ByteArray := prog_8_method_1_code
def yX6_init : MethodName := ⟨RX6, "<init>", "()V"⟩
def RX7 : String := "CleaningBench$Rows"
def TX7 : u_T := fun k => match k with
  | 0 => ("CleaningBench$Rows", "list", "[LCleaningBench$Row;", true)
  | _ => ("CleaningBench$Rows", "many", "I", false)
def tyX7 : Nat → FieldType := fun k => match k with
  | 0 => .array (.object "CleaningBench$Row")
  | _ => .int
abbrev wsX70 : List Cond := u_ws RX7 TX7 2
theorem nmX7 : ∀ a, a < 2 → ∀ b, b < 2 → a ≠ b → (TX7 a).2.1 ≠ (TX7 b).2.1 := by decide +kernel
theorem tyX7_ok : ∀ k, k < 2 → parseFieldDescriptor (TX7 k).2.2.1 = some (tyX7 k) := by decide +kernel
abbrev cX7_init : ByteArray := prog_9_method_1_code
def yX7_init : MethodName := ⟨RX7, "<init>", "()V"⟩
abbrev cX7_add : ByteArray := prog_9_method_2_code
def yX7_add : MethodName := ⟨RX7, "add", "(II)I"⟩
abbrev cX7_kept : ByteArray := prog_9_method_3_code
def yX7_kept : MethodName := ⟨RX7, "kept", "()I"⟩
abbrev cX7_drop : ByteArray := prog_9_method_4_code
def yX7_drop : MethodName := ⟨RX7, "drop", "(I)V"⟩
abbrev cX7_manyOf : ByteArray := prog_9_method_5_code
def yX7_manyOf : MethodName := ⟨RX7, "manyOf", "(I)I"⟩
abbrev cX7_trustOf : ByteArray := prog_9_method_6_code
def yX7_trustOf : MethodName := ⟨RX7, "trustOf", "(I)I"⟩
abbrev cX7_withCell : ByteArray := prog_9_method_7_code
def yX7_withCell : MethodName := ⟨RX7, "withCell", "(III)I"⟩
abbrev cX7_withNumber : ByteArray := prog_9_method_8_code
def yX7_withNumber : MethodName := ⟨RX7, "withNumber", "(IIJI)I"⟩
abbrev cX7_aboveZero : ByteArray := prog_9_method_9_code
def yX7_aboveZero : MethodName := ⟨RX7, "aboveZero", "(II)I"⟩
abbrev cX7_added : ByteArray := prog_9_method_10_code
def yX7_added : MethodName := ⟨RX7, "added", "(III)J"⟩
abbrev cX7_settleAll : ByteArray := prog_9_method_11_code
def yX7_settleAll : MethodName := ⟨RX7, "settleAll", "(III)I"⟩
abbrev cX7_settleGroup : ByteArray := prog_9_method_12_code
def yX7_settleGroup : MethodName := ⟨RX7, "settleGroup", "(III)I"⟩
abbrev cX7_mostTrusted : ByteArray := prog_9_method_13_code
def yX7_mostTrusted : MethodName := ⟨RX7, "mostTrusted", "(III)J"⟩
def RX8 : String := "CleaningBench$Table"
def TX8 : u_T := fun k => match k with
  | 0 => ("CleaningBench$Table", "lanes", "[I", true)
  | _ => ("CleaningBench$Table", "columns", "I", false)
def tyX8 : Nat → FieldType := fun k => match k with
  | 0 => .array .int
  | _ => .int
abbrev wsX80 : List Cond := u_ws RX8 TX8 2
theorem nmX8 : ∀ a, a < 2 → ∀ b, b < 2 → a ≠ b → (TX8 a).2.1 ≠ (TX8 b).2.1 := by decide +kernel
theorem tyX8_ok : ∀ k, k < 2 → parseFieldDescriptor (TX8 k).2.2.1 = some (tyX8 k) := by decide +kernel
abbrev cX8_init : ByteArray := prog_10_method_1_code
def yX8_init : MethodName := ⟨RX8, "<init>", "()V"⟩
abbrev cX8_make : ByteArray := prog_10_method_2_code
def yX8_make : MethodName := ⟨RX8, "make", "(II)V"⟩
def RX9 : String := "CleaningBench"
def TX9 : u_T := fun k => match k with
  | 0 => ("CleaningBench", "tables", "[LCleaningBench$Table;", true)
  | 1 => ("CleaningBench", "rows", "LCleaningBench$Rows;", true)
  | 2 => ("CleaningBench", "laws", "LCleaningBench$Laws;", true)
  | 3 => ("CleaningBench", "mendings", "LCleaningBench$Mendings;", true)
  | 4 => ("CleaningBench", "question", "LCleaningBench$Question;", true)
  | _ => ("CleaningBench", "findings", "I", false)
def tyX9 : Nat → FieldType := fun k => match k with
  | 0 => .array (.object "CleaningBench$Table")
  | 1 => .object "CleaningBench$Rows"
  | 2 => .object "CleaningBench$Laws"
  | 3 => .object "CleaningBench$Mendings"
  | 4 => .object "CleaningBench$Question"
  | _ => .int
abbrev wsX90 : List Cond := u_ws RX9 TX9 6
theorem nmX9 : ∀ a, a < 6 → ∀ b, b < 6 → a ≠ b → (TX9 a).2.1 ≠ (TX9 b).2.1 := by decide +kernel
theorem tyX9_ok : ∀ k, k < 6 → parseFieldDescriptor (TX9 k).2.2.1 = some (tyX9 k) := by decide +kernel
abbrev cX9_init : ByteArray := prog_1_method_1_code
def yX9_init : MethodName := ⟨RX9, "<init>", "()V"⟩
abbrev cX9_table : ByteArray := prog_1_method_2_code
def yX9_table : MethodName := ⟨RX9, "table", "(III)I"⟩
abbrev cX9_row : ByteArray := prog_1_method_3_code
def yX9_row : MethodName := ⟨RX9, "row", "(II)I"⟩
abbrev cX9_put : ByteArray := prog_1_method_4_code
def yX9_put : MethodName := ⟨RX9, "put", "(IIJ)I"⟩
abbrev cX9_miss : ByteArray := prog_1_method_5_code
def yX9_miss : MethodName := ⟨RX9, "miss", "(II)I"⟩
abbrev cX9_has : ByteArray := prog_1_method_6_code
def yX9_has : MethodName := ⟨RX9, "has", "(II)I"⟩
abbrev cX9_cell : ByteArray := prog_1_method_7_code
def yX9_cell : MethodName := ⟨RX9, "cell", "(II)J"⟩
abbrev cX9_column : ByteArray := prog_1_method_8_code
def yX9_column : MethodName := ⟨RX9, "column", "(III)I"⟩
abbrev cX9_trust : ByteArray := prog_1_method_9_code
def yX9_trust : MethodName := ⟨RX9, "trust", "(II)I"⟩
abbrev cX9_keep : ByteArray := prog_1_method_10_code
def yX9_keep : MethodName := ⟨RX9, "keep", "(IZ)I"⟩
abbrev cX9_about : ByteArray := prog_1_method_11_code
def yX9_about : MethodName := ⟨RX9, "about", "(II)I"⟩
abbrev cX9_law : ByteArray := prog_1_method_12_code
def yX9_law : MethodName := ⟨RX9, "law", "(IIIIJJ)I"⟩
abbrev cX9_among : ByteArray := prog_1_method_13_code
def yX9_among : MethodName := ⟨RX9, "among", "(IIII)I"⟩
abbrev cX9_force : ByteArray := prog_1_method_14_code
def yX9_force : MethodName := ⟨RX9, "force", "(IZ)I"⟩
abbrev cX9_most : ByteArray := prog_1_method_15_code
def yX9_most : MethodName := ⟨RX9, "most", "(I)J"⟩
abbrev cX9_quarrels : ByteArray := prog_1_method_16_code
def yX9_quarrels : MethodName := ⟨RX9, "quarrels", "(I)I"⟩
abbrev cX9_quarrel : ByteArray := prog_1_method_17_code
def yX9_quarrel : MethodName := ⟨RX9, "quarrel", "(II)I"⟩
abbrev cX9_clean : ByteArray := prog_1_method_18_code
def yX9_clean : MethodName := ⟨RX9, "clean", "()I"⟩
abbrev cX9_breaks : ByteArray := prog_1_method_19_code
def yX9_breaks : MethodName := ⟨RX9, "breaks", "(I)I"⟩
abbrev cX9_mends : ByteArray := prog_1_method_20_code
def yX9_mends : MethodName := ⟨RX9, "mends", "()I"⟩
abbrev cX9_mending : ByteArray := prog_1_method_21_code
def yX9_mending : MethodName := ⟨RX9, "mending", "(I)I"⟩
abbrev cX9_price : ByteArray := prog_1_method_22_code
def yX9_price : MethodName := ⟨RX9, "price", "()I"⟩
abbrev cX9_best : ByteArray := prog_1_method_23_code
def yX9_best : MethodName := ⟨RX9, "best", "()I"⟩
abbrev cX9_blame : ByteArray := prog_1_method_24_code
def yX9_blame : MethodName := ⟨RX9, "blame", "(I)I"⟩
abbrev cX9_sum : ByteArray := prog_1_method_25_code
def yX9_sum : MethodName := ⟨RX9, "sum", "(IIZ)J"⟩
abbrev cX9_mend : ByteArray := prog_1_method_26_code
def yX9_mend : MethodName := ⟨RX9, "mend", "()I"⟩
abbrev cX9_settle : ByteArray := prog_1_method_27_code
def yX9_settle : MethodName := ⟨RX9, "settle", "(I)I"⟩
abbrev cX9_ask : ByteArray := prog_1_method_28_code
def yX9_ask : MethodName := ⟨RX9, "ask", "()I"⟩
abbrev cX9_part : ByteArray := prog_1_method_29_code
def yX9_part : MethodName := ⟨RX9, "part", "(I)I"⟩
abbrev cX9_tell : ByteArray := prog_1_method_30_code
def yX9_tell : MethodName := ⟨RX9, "tell", "(IIJ)I"⟩
abbrev cX9_join : ByteArray := prog_1_method_31_code
def yX9_join : MethodName := ⟨RX9, "join", "(IIII)I"⟩
abbrev cX9_stands : ByteArray := prog_1_method_32_code
def yX9_stands : MethodName := ⟨RX9, "stands", "()I"⟩
abbrev cX9_often : ByteArray := prog_1_method_33_code
def yX9_often : MethodName := ⟨RX9, "often", "()I"⟩
abbrev cX9_sure : ByteArray := prog_1_method_34_code
def yX9_sure : MethodName := ⟨RX9, "sure", "()I"⟩
abbrev cX9_against : ByteArray := prog_1_method_35_code
def yX9_against : MethodName := ⟨RX9, "against", "()I"⟩
abbrev cX9_count : ByteArray := prog_1_method_36_code
def yX9_count : MethodName := ⟨RX9, "count", "(I)I"⟩
abbrev cX9_found : ByteArray := prog_1_method_37_code
def yX9_found : MethodName := ⟨RX9, "found", "(I)I"⟩
abbrev cX9_faultOfTable : ByteArray := prog_1_method_38_code
def yX9_faultOfTable : MethodName := ⟨RX9, "faultOfTable", "(I)I"⟩
abbrev cX9_faultOfColumn : ByteArray := prog_1_method_39_code
def yX9_faultOfColumn : MethodName := ⟨RX9, "faultOfColumn", "(II)I"⟩
abbrev cX9_faultOfColumnIn : ByteArray := prog_1_method_40_code
def yX9_faultOfColumnIn : MethodName := ⟨RX9, "faultOfColumnIn", "(II)I"⟩
abbrev cX9_faultOfCell : ByteArray := prog_1_method_41_code
def yX9_faultOfCell : MethodName := ⟨RX9, "faultOfCell", "(II)I"⟩
abbrev cX9_faultOfPart : ByteArray := prog_1_method_42_code
def yX9_faultOfPart : MethodName := ⟨RX9, "faultOfPart", "(II)I"⟩
abbrev cX9_isRow : ByteArray := prog_1_method_43_code
def yX9_isRow : MethodName := ⟨RX9, "isRow", "(I)Z"⟩
abbrev cX9_isLaw : ByteArray := prog_1_method_44_code
def yX9_isLaw : MethodName := ⟨RX9, "isLaw", "(I)Z"⟩
abbrev cX9_isPart : ByteArray := prog_1_method_45_code
def yX9_isPart : MethodName := ⟨RX9, "isPart", "(I)Z"⟩
abbrev cX9_isTrust : ByteArray := prog_1_method_46_code
def yX9_isTrust : MethodName := ⟨RX9, "isTrust", "(I)Z"⟩
abbrev cX9_areLanes : ByteArray := prog_1_method_47_code
def yX9_areLanes : MethodName := ⟨RX9, "areLanes", "(II)Z"⟩
abbrev cX9_looksAtTwo : ByteArray := prog_1_method_48_code
def yX9_looksAtTwo : MethodName := ⟨RX9, "looksAtTwo", "(I)Z"⟩
abbrev cX9_manyTables : ByteArray := prog_1_method_49_code
def yX9_manyTables : MethodName := ⟨RX9, "manyTables", "()I"⟩
abbrev cX9_timesStanding : ByteArray := prog_1_method_50_code
def yX9_timesStanding : MethodName := ⟨RX9, "timesStanding", "()I"⟩
abbrev cX9_oneIf : ByteArray := prog_1_method_51_code
def yX9_oneIf : MethodName := ⟨RX9, "oneIf", "(Z)I"⟩
abbrev cX9_isIn : ByteArray := prog_1_method_52_code
def yX9_isIn : MethodName := ⟨RX9, "isIn", "(II)Z"⟩
abbrev cX9_asLane : ByteArray := prog_1_method_53_code
def yX9_asLane : MethodName := ⟨RX9, "asLane", "(IJ)J"⟩
abbrev cX9_markWholes : ByteArray := prog_1_method_54_code
def yX9_markWholes : MethodName := ⟨RX9, "markWholes", "([ZI)V"⟩
abbrev cX9_unmark : ByteArray := prog_1_method_55_code
def yX9_unmark : MethodName := ⟨RX9, "unmark", "([ZI)V"⟩
def RX10 : String := "CleaningBenchModel"
def TX10 : u_T := fun k => match k with
  | 0 => ("CleaningBenchModel", "thrown", "I", false)
  | 1 => ("CleaningBenchModel", "columns", "[I", true)
  | 2 => ("CleaningBenchModel", "laneOf", "[I", true)
  | 3 => ("CleaningBenchModel", "rows", "I", false)
  | 4 => ("CleaningBenchModel", "tableOf", "[I", true)
  | 5 => ("CleaningBenchModel", "trustOf", "[I", true)
  | 6 => ("CleaningBenchModel", "isKept", "[Z", true)
  | 7 => ("CleaningBenchModel", "isThere", "[Z", true)
  | 8 => ("CleaningBenchModel", "told", "[J", true)
  | 9 => ("CleaningBenchModel", "laws", "I", false)
  | 10 => ("CleaningBenchModel", "kind", "[I", true)
  | 11 => ("CleaningBenchModel", "lawTable", "[I", true)
  | 12 => ("CleaningBenchModel", "colA", "[I", true)
  | 13 => ("CleaningBenchModel", "colB", "[I", true)
  | 14 => ("CleaningBenchModel", "lawOther", "[I", true)
  | 15 => ("CleaningBenchModel", "numC", "[J", true)
  | 16 => ("CleaningBenchModel", "numD", "[J", true)
  | 17 => ("CleaningBenchModel", "isInForce", "[Z", true)
  | 18 => ("CleaningBenchModel", "findings", "I", false)
  | 19 => ("CleaningBenchModel", "parts", "I", false)
  | 20 => ("CleaningBenchModel", "partTable", "[I", true)
  | 21 => ("CleaningBenchModel", "isTold", "[Z", true)
  | 22 => ("CleaningBenchModel", "tellOf", "[J", true)
  | 23 => ("CleaningBenchModel", "joins", "I", false)
  | 24 => ("CleaningBenchModel", "joinP", "[I", true)
  | 25 => ("CleaningBenchModel", "joinC", "[I", true)
  | 26 => ("CleaningBenchModel", "joinQ", "[I", true)
  | 27 => ("CleaningBenchModel", "joinD", "[I", true)
  | 28 => ("CleaningBenchModel", "isKnown", "Z", false)
  | 29 => ("CleaningBenchModel", "many", "I", false)
  | 30 => ("CleaningBenchModel", "leastOf", "[I", true)
  | 31 => ("CleaningBenchModel", "mendsBy", "[Z", true)
  | 32 => ("CleaningBenchModel", "quarrelsFound", "I", false)
  | 33 => ("CleaningBenchModel", "quarrelOf", "[I", true)
  | 34 => ("CleaningBenchModel", "become", "[J", true)
  | _ => ("CleaningBenchModel", "rowOf", "[I", true)
def tyX10 : Nat → FieldType := fun k => match k with
  | 0 => .int
  | 1 => .array .int
  | 2 => .array .int
  | 3 => .int
  | 4 => .array .int
  | 5 => .array .int
  | 6 => .array .boolean
  | 7 => .array .boolean
  | 8 => .array .long
  | 9 => .int
  | 10 => .array .int
  | 11 => .array .int
  | 12 => .array .int
  | 13 => .array .int
  | 14 => .array .int
  | 15 => .array .long
  | 16 => .array .long
  | 17 => .array .boolean
  | 18 => .int
  | 19 => .int
  | 20 => .array .int
  | 21 => .array .boolean
  | 22 => .array .long
  | 23 => .int
  | 24 => .array .int
  | 25 => .array .int
  | 26 => .array .int
  | 27 => .array .int
  | 28 => .boolean
  | 29 => .int
  | 30 => .array .int
  | 31 => .array .boolean
  | 32 => .int
  | 33 => .array .int
  | 34 => .array .long
  | _ => .array .int
abbrev wsX100 : List Cond := u_ws RX10 TX10 36
theorem nmX10 : ∀ a, a < 36 → ∀ b, b < 36 → a ≠ b → (TX10 a).2.1 ≠ (TX10 b).2.1 := by decide +kernel
theorem tyX10_ok : ∀ k, k < 36 → parseFieldDescriptor (TX10 k).2.2.1 = some (tyX10 k) := by decide +kernel
abbrev cX10_init : ByteArray := prog_12_method_1_code
def yX10_init : MethodName := ⟨RX10, "<init>", "()V"⟩
abbrev cX10_in : ByteArray := prog_12_method_3_code
def yX10_in : MethodName := ⟨RX10, "in", "(JJJ)Z"⟩
abbrev cX10_finds : ByteArray := prog_12_method_4_code
def yX10_finds : MethodName := ⟨RX10, "finds", "(I)I"⟩
abbrev cX10_lack : ByteArray := prog_12_method_5_code
def yX10_lack : MethodName := ⟨RX10, "lack", "(I)I"⟩
abbrev cX10_noRow : ByteArray := prog_12_method_6_code
def yX10_noRow : MethodName := ⟨RX10, "noRow", "(I)Z"⟩
abbrev cX10_noLaw : ByteArray := prog_12_method_7_code
def yX10_noLaw : MethodName := ⟨RX10, "noLaw", "(I)Z"⟩
abbrev cX10_noColumn : ByteArray := prog_12_method_8_code
def yX10_noColumn : MethodName := ⟨RX10, "noColumn", "(II)Z"⟩
abbrev cX10_table : ByteArray := prog_12_method_9_code
def yX10_table : MethodName := ⟨RX10, "table", "(III)I"⟩
abbrev cX10_row : ByteArray := prog_12_method_10_code
def yX10_row : MethodName := ⟨RX10, "row", "(II)I"⟩
abbrev cX10_lies : ByteArray := prog_12_method_11_code
def yX10_lies : MethodName := ⟨RX10, "lies", "(IJ)J"⟩
abbrev cX10_put : ByteArray := prog_12_method_12_code
def yX10_put : MethodName := ⟨RX10, "put", "(IIJ)I"⟩
abbrev cX10_miss : ByteArray := prog_12_method_13_code
def yX10_miss : MethodName := ⟨RX10, "miss", "(II)I"⟩
abbrev cX10_has : ByteArray := prog_12_method_14_code
def yX10_has : MethodName := ⟨RX10, "has", "(II)I"⟩
abbrev cX10_cell : ByteArray := prog_12_method_15_code
def yX10_cell : MethodName := ⟨RX10, "cell", "(II)J"⟩
abbrev cX10_column : ByteArray := prog_12_method_16_code
def yX10_column : MethodName := ⟨RX10, "column", "(III)I"⟩
abbrev cX10_trust : ByteArray := prog_12_method_17_code
def yX10_trust : MethodName := ⟨RX10, "trust", "(II)I"⟩
abbrev cX10_keep : ByteArray := prog_12_method_18_code
def yX10_keep : MethodName := ⟨RX10, "keep", "(IZ)I"⟩
abbrev cX10_about : ByteArray := prog_12_method_19_code
def yX10_about : MethodName := ⟨RX10, "about", "(II)I"⟩
abbrev cX10_add : ByteArray := prog_12_method_20_code
def yX10_add : MethodName := ⟨RX10, "add", "(IIIIIJJ)I"⟩
abbrev cX10_law : ByteArray := prog_12_method_21_code
def yX10_law : MethodName := ⟨RX10, "law", "(IIIIJJ)I"⟩
abbrev cX10_among : ByteArray := prog_12_method_22_code
def yX10_among : MethodName := ⟨RX10, "among", "(IIII)I"⟩
abbrev cX10_force : ByteArray := prog_12_method_23_code
def yX10_force : MethodName := ⟨RX10, "force", "(IZ)I"⟩
abbrev cX10_most : ByteArray := prog_12_method_24_code
def yX10_most : MethodName := ⟨RX10, "most", "(I)J"⟩
abbrev cX10_keptSet : ByteArray := prog_12_method_25_code
def yX10_keptSet : MethodName := ⟨RX10, "keptSet", "()I"⟩
abbrev cX10_isLike : ByteArray := prog_12_method_26_code
def yX10_isLike : MethodName := ⟨RX10, "isLike", "(IIII)Z"⟩
abbrev cX10_breakTwo : ByteArray := prog_12_method_27_code
def yX10_breakTwo : MethodName := ⟨RX10, "breakTwo", "(III)Z"⟩
abbrev cX10_breakOne : ByteArray := prog_12_method_28_code
def yX10_breakOne : MethodName := ⟨RX10, "breakOne", "(III)Z"⟩
abbrev cX10_isOf : ByteArray := prog_12_method_29_code
def yX10_isOf : MethodName := ⟨RX10, "isOf", "(III)Z"⟩
abbrev cX10_counts : ByteArray := prog_12_method_30_code
def yX10_counts : MethodName := ⟨RX10, "counts", "(II)Z"⟩
abbrev cX10_isMore : ByteArray := prog_12_method_31_code
def yX10_isMore : MethodName := ⟨RX10, "isMore", "(IIII)Z"⟩
abbrev cX10_breaksLaw : ByteArray := prog_12_method_32_code
def yX10_breaksLaw : MethodName := ⟨RX10, "breaksLaw", "(II)Z"⟩
abbrev cX10_bitsOf : ByteArray := prog_12_method_33_code
def yX10_bitsOf : MethodName := ⟨RX10, "bitsOf", "(I)I"⟩
abbrev cX10_isLeastSum : ByteArray := prog_12_method_34_code
def yX10_isLeastSum : MethodName := ⟨RX10, "isLeastSum", "(II)Z"⟩
abbrev cX10_findQuarrels : ByteArray := prog_12_method_35_code
def yX10_findQuarrels : MethodName := ⟨RX10, "findQuarrels", "(I)V"⟩
abbrev cX10_quarrels : ByteArray := prog_12_method_36_code
def yX10_quarrels : MethodName := ⟨RX10, "quarrels", "(I)I"⟩
abbrev cX10_quarrel : ByteArray := prog_12_method_37_code
def yX10_quarrel : MethodName := ⟨RX10, "quarrel", "(II)I"⟩
abbrev cX10_firstBroken : ByteArray := prog_12_method_38_code
def yX10_firstBroken : MethodName := ⟨RX10, "firstBroken", "(I)I"⟩
abbrev cX10_clean : ByteArray := prog_12_method_39_code
def yX10_clean : MethodName := ⟨RX10, "clean", "()I"⟩
abbrev cX10_breaks : ByteArray := prog_12_method_40_code
def yX10_breaks : MethodName := ⟨RX10, "breaks", "(I)I"⟩
abbrev cX10_know : ByteArray := prog_12_method_41_code
def yX10_know : MethodName := ⟨RX10, "know", "()V"⟩
abbrev cX10_priceOf : ByteArray := prog_12_method_42_code
def yX10_priceOf : MethodName := ⟨RX10, "priceOf", "(I)I"⟩
abbrev cX10_bestOf : ByteArray := prog_12_method_43_code
def yX10_bestOf : MethodName := ⟨RX10, "bestOf", "()I"⟩
abbrev cX10_mends : ByteArray := prog_12_method_44_code
def yX10_mends : MethodName := ⟨RX10, "mends", "()I"⟩
abbrev cX10_mending : ByteArray := prog_12_method_45_code
def yX10_mending : MethodName := ⟨RX10, "mending", "(I)I"⟩
abbrev cX10_price : ByteArray := prog_12_method_46_code
def yX10_price : MethodName := ⟨RX10, "price", "()I"⟩
abbrev cX10_best : ByteArray := prog_12_method_47_code
def yX10_best : MethodName := ⟨RX10, "best", "()I"⟩
abbrev cX10_blame : ByteArray := prog_12_method_48_code
def yX10_blame : MethodName := ⟨RX10, "blame", "(I)I"⟩
abbrev cX10_sum : ByteArray := prog_12_method_49_code
def yX10_sum : MethodName := ⟨RX10, "sum", "(IIZ)J"⟩
abbrev cX10_mend : ByteArray := prog_12_method_50_code
def yX10_mend : MethodName := ⟨RX10, "mend", "()I"⟩
abbrev cX10_settled : ByteArray := prog_12_method_51_code
def yX10_settled : MethodName := ⟨RX10, "settled", "(III)J"⟩
abbrev cX10_settle : ByteArray := prog_12_method_52_code
def yX10_settle : MethodName := ⟨RX10, "settle", "(I)I"⟩
abbrev cX10_noPart : ByteArray := prog_12_method_53_code
def yX10_noPart : MethodName := ⟨RX10, "noPart", "(I)Z"⟩
abbrev cX10_ask : ByteArray := prog_12_method_54_code
def yX10_ask : MethodName := ⟨RX10, "ask", "()I"⟩
abbrev cX10_part : ByteArray := prog_12_method_55_code
def yX10_part : MethodName := ⟨RX10, "part", "(I)I"⟩
abbrev cX10_tell : ByteArray := prog_12_method_56_code
def yX10_tell : MethodName := ⟨RX10, "tell", "(IIJ)I"⟩
abbrev cX10_join : ByteArray := prog_12_method_57_code
def yX10_join : MethodName := ⟨RX10, "join", "(IIII)I"⟩
abbrev cX10_fitsPart : ByteArray := prog_12_method_58_code
def yX10_fitsPart : MethodName := ⟨RX10, "fitsPart", "(III)Z"⟩
abbrev cX10_standsIn : ByteArray := prog_12_method_59_code
def yX10_standsIn : MethodName := ⟨RX10, "standsIn", "(I)Z"⟩
abbrev cX10_stands : ByteArray := prog_12_method_60_code
def yX10_stands : MethodName := ⟨RX10, "stands", "()I"⟩
abbrev cX10_oftenOf : ByteArray := prog_12_method_61_code
def yX10_oftenOf : MethodName := ⟨RX10, "oftenOf", "()I"⟩
abbrev cX10_often : ByteArray := prog_12_method_62_code
def yX10_often : MethodName := ⟨RX10, "often", "()I"⟩
abbrev cX10_sure : ByteArray := prog_12_method_63_code
def yX10_sure : MethodName := ⟨RX10, "sure", "()I"⟩
abbrev cX10_against : ByteArray := prog_12_method_64_code
def yX10_against : MethodName := ⟨RX10, "against", "()I"⟩
abbrev cX10_count : ByteArray := prog_12_method_65_code
def yX10_count : MethodName := ⟨RX10, "count", "(I)I"⟩
def RJ6 : String := "java/lang/Integer"
def TJ6 : u_T := fun k => match k with
  | _ => ("", "", "", false)
def tyJ6 : Nat → FieldType := fun k => match k with
  | _ => .int
abbrev cJ6_bitCount_0f7a4 : ByteArray := prog_13_method_49_code
def yJ6_bitCount_0f7a4 : MethodName := ⟨RJ6, "bitCount", "(I)I"⟩
def RL : String := "CleaningBenchLaw"
abbrev cL_law : ByteArray := code
def yL_law : MethodName := ⟨RL, "law", "([I)Z"⟩
abbrev vwCl : List vw_C := [(RX0, TX0, 4), (RX1, TX1, 8), (RX2, TX2, 5), (RX3, TX3, 7), (RX4, TX4, 3), (RX5, TX5, 8), (RX6, TX6, 5), (RX7, TX7, 2), (RX8, TX8, 2), (RX9, TX9, 6), (RX10, TX10, 36)]
