section
-- ===== PART A: goes FIRST, ahead of the names: the tables' words, and 'selects' of the private methods out of them =====
/-- a private method of a class that the tables say can be made, by its rows of tables_1 -/
def lw_okq (q : MethodName × Nat) : Prop := (q.1.cls ≠ "java/lang/invoke/MethodHandle" ∧ q.1.cls ≠ "java/lang/invoke/VarHandle") ∧ Cond.instantiable q.1.cls q.2 ∈ tables_1 ∧ Cond.privateMethod q.1 ∈ tables_1 ∧ Cond.instanceMethod q.1 ∈ tables_1
theorem lw_p0 : lw_okq (⟨"CleaningBench", "found", "(I)I"⟩, 6) := ⟨⟨by decide +kernel, by decide +kernel⟩, List.mem_of_getElem? (i := 14) (by decide +kernel), List.mem_of_getElem? (i := 306) (by decide +kernel), List.mem_of_getElem? (i := 307) (by decide +kernel)⟩
theorem lw_p1 : lw_okq (⟨"CleaningBench", "faultOfTable", "(I)I"⟩, 6) := ⟨⟨by decide +kernel, by decide +kernel⟩, List.mem_of_getElem? (i := 14) (by decide +kernel), List.mem_of_getElem? (i := 321) (by decide +kernel), List.mem_of_getElem? (i := 322) (by decide +kernel)⟩
theorem lw_p2 : lw_okq (⟨"CleaningBench", "faultOfCell", "(II)I"⟩, 6) := ⟨⟨by decide +kernel, by decide +kernel⟩, List.mem_of_getElem? (i := 14) (by decide +kernel), List.mem_of_getElem? (i := 336) (by decide +kernel), List.mem_of_getElem? (i := 337) (by decide +kernel)⟩
theorem lw_p3 : lw_okq (⟨"CleaningBench", "isRow", "(I)Z"⟩, 6) := ⟨⟨by decide +kernel, by decide +kernel⟩, List.mem_of_getElem? (i := 14) (by decide +kernel), List.mem_of_getElem? (i := 340) (by decide +kernel), List.mem_of_getElem? (i := 341) (by decide +kernel)⟩
theorem lw_p4 : lw_okq (⟨"CleaningBench", "faultOfColumn", "(II)I"⟩, 6) := ⟨⟨by decide +kernel, by decide +kernel⟩, List.mem_of_getElem? (i := 14) (by decide +kernel), List.mem_of_getElem? (i := 344) (by decide +kernel), List.mem_of_getElem? (i := 345) (by decide +kernel)⟩
theorem lw_p5 : lw_okq (⟨"CleaningBench", "faultOfColumnIn", "(II)I"⟩, 6) := ⟨⟨by decide +kernel, by decide +kernel⟩, List.mem_of_getElem? (i := 14) (by decide +kernel), List.mem_of_getElem? (i := 391) (by decide +kernel), List.mem_of_getElem? (i := 392) (by decide +kernel)⟩
theorem lw_p6 : lw_okq (⟨"CleaningBench", "isLaw", "(I)Z"⟩, 6) := ⟨⟨by decide +kernel, by decide +kernel⟩, List.mem_of_getElem? (i := 14) (by decide +kernel), List.mem_of_getElem? (i := 410) (by decide +kernel), List.mem_of_getElem? (i := 411) (by decide +kernel)⟩
theorem lw_p7 : lw_okq (⟨"CleaningBench", "faultOfPart", "(II)I"⟩, 6) := ⟨⟨by decide +kernel, by decide +kernel⟩, List.mem_of_getElem? (i := 14) (by decide +kernel), List.mem_of_getElem? (i := 627) (by decide +kernel), List.mem_of_getElem? (i := 628) (by decide +kernel)⟩
theorem lw_p8 : lw_okq (⟨"CleaningBench", "isPart", "(I)Z"⟩, 6) := ⟨⟨by decide +kernel, by decide +kernel⟩, List.mem_of_getElem? (i := 14) (by decide +kernel), List.mem_of_getElem? (i := 631) (by decide +kernel), List.mem_of_getElem? (i := 632) (by decide +kernel)⟩
theorem lw_p9 : lw_okq (⟨"CleaningBench", "timesStanding", "()I"⟩, 6) := ⟨⟨by decide +kernel, by decide +kernel⟩, List.mem_of_getElem? (i := 14) (by decide +kernel), List.mem_of_getElem? (i := 680) (by decide +kernel), List.mem_of_getElem? (i := 681) (by decide +kernel)⟩
theorem lw_p10 : lw_okq (⟨"CleaningBench", "manyTables", "()I"⟩, 6) := ⟨⟨by decide +kernel, by decide +kernel⟩, List.mem_of_getElem? (i := 14) (by decide +kernel), List.mem_of_getElem? (i := 706) (by decide +kernel), List.mem_of_getElem? (i := 707) (by decide +kernel)⟩
theorem lw_p11 : lw_okq (⟨"CleaningBenchModel", "finds", "(I)I"⟩, 36) := ⟨⟨by decide +kernel, by decide +kernel⟩, List.mem_of_getElem? (i := 710) (by decide +kernel), List.mem_of_getElem? (i := 833) (by decide +kernel), List.mem_of_getElem? (i := 834) (by decide +kernel)⟩
theorem lw_p12 : lw_okq (⟨"CleaningBenchModel", "lack", "(I)I"⟩, 36) := ⟨⟨by decide +kernel, by decide +kernel⟩, List.mem_of_getElem? (i := 710) (by decide +kernel), List.mem_of_getElem? (i := 841) (by decide +kernel), List.mem_of_getElem? (i := 842) (by decide +kernel)⟩
theorem lw_p13 : lw_okq (⟨"CleaningBenchModel", "noRow", "(I)Z"⟩, 36) := ⟨⟨by decide +kernel, by decide +kernel⟩, List.mem_of_getElem? (i := 710) (by decide +kernel), List.mem_of_getElem? (i := 850) (by decide +kernel), List.mem_of_getElem? (i := 851) (by decide +kernel)⟩
theorem lw_p14 : lw_okq (⟨"CleaningBenchModel", "noColumn", "(II)Z"⟩, 36) := ⟨⟨by decide +kernel, by decide +kernel⟩, List.mem_of_getElem? (i := 710) (by decide +kernel), List.mem_of_getElem? (i := 854) (by decide +kernel), List.mem_of_getElem? (i := 855) (by decide +kernel)⟩
theorem lw_p15 : lw_okq (⟨"CleaningBenchModel", "add", "(IIIIIJJ)I"⟩, 36) := ⟨⟨by decide +kernel, by decide +kernel⟩, List.mem_of_getElem? (i := 710) (by decide +kernel), List.mem_of_getElem? (i := 896) (by decide +kernel), List.mem_of_getElem? (i := 897) (by decide +kernel)⟩
def lw_privs_1 : List (MethodName × Nat) := [(⟨"CleaningBench", "found", "(I)I"⟩, 6), (⟨"CleaningBench", "faultOfTable", "(I)I"⟩, 6), (⟨"CleaningBench", "faultOfCell", "(II)I"⟩, 6), (⟨"CleaningBench", "isRow", "(I)Z"⟩, 6), (⟨"CleaningBench", "faultOfColumn", "(II)I"⟩, 6), (⟨"CleaningBench", "faultOfColumnIn", "(II)I"⟩, 6), (⟨"CleaningBench", "isLaw", "(I)Z"⟩, 6), (⟨"CleaningBench", "faultOfPart", "(II)I"⟩, 6), (⟨"CleaningBench", "isPart", "(I)Z"⟩, 6), (⟨"CleaningBench", "timesStanding", "()I"⟩, 6), (⟨"CleaningBench", "manyTables", "()I"⟩, 6), (⟨"CleaningBenchModel", "finds", "(I)I"⟩, 36), (⟨"CleaningBenchModel", "lack", "(I)I"⟩, 36), (⟨"CleaningBenchModel", "noRow", "(I)Z"⟩, 36), (⟨"CleaningBenchModel", "noColumn", "(II)Z"⟩, 36), (⟨"CleaningBenchModel", "add", "(IIIIIJJ)I"⟩, 36)]
theorem lw_r1 : ∀ q ∈ lw_privs_1, lw_okq q := List.forall_mem_cons.mpr ⟨lw_p0, List.forall_mem_cons.mpr ⟨lw_p1, List.forall_mem_cons.mpr ⟨lw_p2, List.forall_mem_cons.mpr ⟨lw_p3, List.forall_mem_cons.mpr ⟨lw_p4, List.forall_mem_cons.mpr ⟨lw_p5, List.forall_mem_cons.mpr ⟨lw_p6, List.forall_mem_cons.mpr ⟨lw_p7, List.forall_mem_cons.mpr ⟨lw_p8, List.forall_mem_cons.mpr ⟨lw_p9, List.forall_mem_cons.mpr ⟨lw_p10, List.forall_mem_cons.mpr ⟨lw_p11, List.forall_mem_cons.mpr ⟨lw_p12, List.forall_mem_cons.mpr ⟨lw_p13, List.forall_mem_cons.mpr ⟨lw_p14, List.forall_mem_cons.mpr ⟨lw_p15, fun _ h => absurd h List.not_mem_nil⟩⟩⟩⟩⟩⟩⟩⟩⟩⟩⟩⟩⟩⟩⟩⟩
theorem lw_p16 : lw_okq (⟨"CleaningBenchModel", "noLaw", "(I)Z"⟩, 36) := ⟨⟨by decide +kernel, by decide +kernel⟩, List.mem_of_getElem? (i := 710) (by decide +kernel), List.mem_of_getElem? (i := 908) (by decide +kernel), List.mem_of_getElem? (i := 909) (by decide +kernel)⟩
theorem lw_p17 : lw_okq (⟨"CleaningBenchModel", "findQuarrels", "(I)V"⟩, 36) := ⟨⟨by decide +kernel, by decide +kernel⟩, List.mem_of_getElem? (i := 710) (by decide +kernel), List.mem_of_getElem? (i := 920) (by decide +kernel), List.mem_of_getElem? (i := 921) (by decide +kernel)⟩
theorem lw_p18 : lw_okq (⟨"CleaningBenchModel", "keptSet", "()I"⟩, 36) := ⟨⟨by decide +kernel, by decide +kernel⟩, List.mem_of_getElem? (i := 710) (by decide +kernel), List.mem_of_getElem? (i := 924) (by decide +kernel), List.mem_of_getElem? (i := 925) (by decide +kernel)⟩
theorem lw_p19 : lw_okq (⟨"CleaningBenchModel", "isLeastSum", "(II)Z"⟩, 36) := ⟨⟨by decide +kernel, by decide +kernel⟩, List.mem_of_getElem? (i := 710) (by decide +kernel), List.mem_of_getElem? (i := 931) (by decide +kernel), List.mem_of_getElem? (i := 932) (by decide +kernel)⟩
theorem lw_p20 : lw_okq (⟨"CleaningBenchModel", "isOf", "(III)Z"⟩, 36) := ⟨⟨by decide +kernel, by decide +kernel⟩, List.mem_of_getElem? (i := 710) (by decide +kernel), List.mem_of_getElem? (i := 935) (by decide +kernel), List.mem_of_getElem? (i := 936) (by decide +kernel)⟩
theorem lw_p21 : lw_okq (⟨"CleaningBenchModel", "counts", "(II)Z"⟩, 36) := ⟨⟨by decide +kernel, by decide +kernel⟩, List.mem_of_getElem? (i := 710) (by decide +kernel), List.mem_of_getElem? (i := 939) (by decide +kernel), List.mem_of_getElem? (i := 940) (by decide +kernel)⟩
theorem lw_p22 : lw_okq (⟨"CleaningBenchModel", "isLike", "(IIII)Z"⟩, 36) := ⟨⟨by decide +kernel, by decide +kernel⟩, List.mem_of_getElem? (i := 710) (by decide +kernel), List.mem_of_getElem? (i := 943) (by decide +kernel), List.mem_of_getElem? (i := 944) (by decide +kernel)⟩
theorem lw_p23 : lw_okq (⟨"CleaningBenchModel", "isMore", "(IIII)Z"⟩, 36) := ⟨⟨by decide +kernel, by decide +kernel⟩, List.mem_of_getElem? (i := 710) (by decide +kernel), List.mem_of_getElem? (i := 947) (by decide +kernel), List.mem_of_getElem? (i := 948) (by decide +kernel)⟩
theorem lw_p24 : lw_okq (⟨"CleaningBenchModel", "breaksLaw", "(II)Z"⟩, 36) := ⟨⟨by decide +kernel, by decide +kernel⟩, List.mem_of_getElem? (i := 710) (by decide +kernel), List.mem_of_getElem? (i := 951) (by decide +kernel), List.mem_of_getElem? (i := 952) (by decide +kernel)⟩
theorem lw_p25 : lw_okq (⟨"CleaningBenchModel", "breakOne", "(III)Z"⟩, 36) := ⟨⟨by decide +kernel, by decide +kernel⟩, List.mem_of_getElem? (i := 710) (by decide +kernel), List.mem_of_getElem? (i := 955) (by decide +kernel), List.mem_of_getElem? (i := 956) (by decide +kernel)⟩
theorem lw_p26 : lw_okq (⟨"CleaningBenchModel", "breakTwo", "(III)Z"⟩, 36) := ⟨⟨by decide +kernel, by decide +kernel⟩, List.mem_of_getElem? (i := 710) (by decide +kernel), List.mem_of_getElem? (i := 959) (by decide +kernel), List.mem_of_getElem? (i := 960) (by decide +kernel)⟩
theorem lw_p27 : lw_okq (⟨"CleaningBenchModel", "firstBroken", "(I)I"⟩, 36) := ⟨⟨by decide +kernel, by decide +kernel⟩, List.mem_of_getElem? (i := 710) (by decide +kernel), List.mem_of_getElem? (i := 971) (by decide +kernel), List.mem_of_getElem? (i := 972) (by decide +kernel)⟩
theorem lw_p28 : lw_okq (⟨"CleaningBenchModel", "know", "()V"⟩, 36) := ⟨⟨by decide +kernel, by decide +kernel⟩, List.mem_of_getElem? (i := 710) (by decide +kernel), List.mem_of_getElem? (i := 983) (by decide +kernel), List.mem_of_getElem? (i := 984) (by decide +kernel)⟩
theorem lw_p29 : lw_okq (⟨"CleaningBenchModel", "bestOf", "()I"⟩, 36) := ⟨⟨by decide +kernel, by decide +kernel⟩, List.mem_of_getElem? (i := 710) (by decide +kernel), List.mem_of_getElem? (i := 995) (by decide +kernel), List.mem_of_getElem? (i := 996) (by decide +kernel)⟩
theorem lw_p30 : lw_okq (⟨"CleaningBenchModel", "priceOf", "(I)I"⟩, 36) := ⟨⟨by decide +kernel, by decide +kernel⟩, List.mem_of_getElem? (i := 710) (by decide +kernel), List.mem_of_getElem? (i := 999) (by decide +kernel), List.mem_of_getElem? (i := 1000) (by decide +kernel)⟩
theorem lw_p31 : lw_okq (⟨"CleaningBenchModel", "settled", "(III)J"⟩, 36) := ⟨⟨by decide +kernel, by decide +kernel⟩, List.mem_of_getElem? (i := 710) (by decide +kernel), List.mem_of_getElem? (i := 1023) (by decide +kernel), List.mem_of_getElem? (i := 1024) (by decide +kernel)⟩
def lw_privs_2 : List (MethodName × Nat) := [(⟨"CleaningBenchModel", "noLaw", "(I)Z"⟩, 36), (⟨"CleaningBenchModel", "findQuarrels", "(I)V"⟩, 36), (⟨"CleaningBenchModel", "keptSet", "()I"⟩, 36), (⟨"CleaningBenchModel", "isLeastSum", "(II)Z"⟩, 36), (⟨"CleaningBenchModel", "isOf", "(III)Z"⟩, 36), (⟨"CleaningBenchModel", "counts", "(II)Z"⟩, 36), (⟨"CleaningBenchModel", "isLike", "(IIII)Z"⟩, 36), (⟨"CleaningBenchModel", "isMore", "(IIII)Z"⟩, 36), (⟨"CleaningBenchModel", "breaksLaw", "(II)Z"⟩, 36), (⟨"CleaningBenchModel", "breakOne", "(III)Z"⟩, 36), (⟨"CleaningBenchModel", "breakTwo", "(III)Z"⟩, 36), (⟨"CleaningBenchModel", "firstBroken", "(I)I"⟩, 36), (⟨"CleaningBenchModel", "know", "()V"⟩, 36), (⟨"CleaningBenchModel", "bestOf", "()I"⟩, 36), (⟨"CleaningBenchModel", "priceOf", "(I)I"⟩, 36), (⟨"CleaningBenchModel", "settled", "(III)J"⟩, 36)]
theorem lw_r2 : ∀ q ∈ lw_privs_2, lw_okq q := List.forall_mem_cons.mpr ⟨lw_p16, List.forall_mem_cons.mpr ⟨lw_p17, List.forall_mem_cons.mpr ⟨lw_p18, List.forall_mem_cons.mpr ⟨lw_p19, List.forall_mem_cons.mpr ⟨lw_p20, List.forall_mem_cons.mpr ⟨lw_p21, List.forall_mem_cons.mpr ⟨lw_p22, List.forall_mem_cons.mpr ⟨lw_p23, List.forall_mem_cons.mpr ⟨lw_p24, List.forall_mem_cons.mpr ⟨lw_p25, List.forall_mem_cons.mpr ⟨lw_p26, List.forall_mem_cons.mpr ⟨lw_p27, List.forall_mem_cons.mpr ⟨lw_p28, List.forall_mem_cons.mpr ⟨lw_p29, List.forall_mem_cons.mpr ⟨lw_p30, List.forall_mem_cons.mpr ⟨lw_p31, fun _ h => absurd h List.not_mem_nil⟩⟩⟩⟩⟩⟩⟩⟩⟩⟩⟩⟩⟩⟩⟩⟩
theorem lw_p32 : lw_okq (⟨"CleaningBenchModel", "noPart", "(I)Z"⟩, 36) := ⟨⟨by decide +kernel, by decide +kernel⟩, List.mem_of_getElem? (i := 710) (by decide +kernel), List.mem_of_getElem? (i := 1039) (by decide +kernel), List.mem_of_getElem? (i := 1040) (by decide +kernel)⟩
theorem lw_p33 : lw_okq (⟨"CleaningBenchModel", "standsIn", "(I)Z"⟩, 36) := ⟨⟨by decide +kernel, by decide +kernel⟩, List.mem_of_getElem? (i := 710) (by decide +kernel), List.mem_of_getElem? (i := 1051) (by decide +kernel), List.mem_of_getElem? (i := 1052) (by decide +kernel)⟩
theorem lw_p34 : lw_okq (⟨"CleaningBenchModel", "fitsPart", "(III)Z"⟩, 36) := ⟨⟨by decide +kernel, by decide +kernel⟩, List.mem_of_getElem? (i := 710) (by decide +kernel), List.mem_of_getElem? (i := 1055) (by decide +kernel), List.mem_of_getElem? (i := 1056) (by decide +kernel)⟩
theorem lw_p35 : lw_okq (⟨"CleaningBenchModel", "oftenOf", "()I"⟩, 36) := ⟨⟨by decide +kernel, by decide +kernel⟩, List.mem_of_getElem? (i := 710) (by decide +kernel), List.mem_of_getElem? (i := 1063) (by decide +kernel), List.mem_of_getElem? (i := 1064) (by decide +kernel)⟩
def lw_privs_3 : List (MethodName × Nat) := [(⟨"CleaningBenchModel", "noPart", "(I)Z"⟩, 36), (⟨"CleaningBenchModel", "standsIn", "(I)Z"⟩, 36), (⟨"CleaningBenchModel", "fitsPart", "(III)Z"⟩, 36), (⟨"CleaningBenchModel", "oftenOf", "()I"⟩, 36)]
theorem lw_r3 : ∀ q ∈ lw_privs_3, lw_okq q := List.forall_mem_cons.mpr ⟨lw_p32, List.forall_mem_cons.mpr ⟨lw_p33, List.forall_mem_cons.mpr ⟨lw_p34, List.forall_mem_cons.mpr ⟨lw_p35, fun _ h => absurd h List.not_mem_nil⟩⟩⟩⟩
def lw_privs : List (MethodName × Nat) := lw_privs_1 ++ (lw_privs_2 ++ (lw_privs_3))
def lw_tbl : List Cond := k2_sels lw_privs ++ tables_1
theorem lw_privs_ok : ∀ q ∈ lw_privs, lw_okq q := by
  show ∀ q ∈ lw_privs_1 ++ (lw_privs_2 ++ (lw_privs_3)), lw_okq q
  exact List.forall_mem_append.mpr ⟨lw_r1, List.forall_mem_append.mpr ⟨lw_r2, lw_r3⟩⟩

-- names, fields, the words of the tables by their places: by program (wip/whole/gen01.py) out of the claim's printed texts
def RX0 : String := "CleaningBench$Join"
def TX0 : u_T := fun k => match k with
  | 0 => ("CleaningBench$Join", "p", "I", false)
  | 1 => ("CleaningBench$Join", "c", "I", false)
  | 2 => ("CleaningBench$Join", "q", "I", false)
  | _ => ("CleaningBench$Join", "d", "I", false)
def tyX0 : Nat → FieldType := fun k => match k with
  | 0 => .int
  | 1 => .int
  | 2 => .int
  | _ => .int
abbrev wsX00 : List Cond := u_ws RX0 TX0 4
theorem nmX0 : ∀ a, a < 4 → ∀ b, b < 4 → a ≠ b → (TX0 a).2.1 ≠ (TX0 b).2.1 := by decide +kernel
theorem tyX0_ok : ∀ k, k < 4 → parseFieldDescriptor (TX0 k).2.2.1 = some (tyX0 k) := by decide +kernel
abbrev cX0_init : ByteArray := prog_2_method_1_code
def yX0_init : MethodName := ⟨RX0, "<init>", "()V"⟩
def RX1 : String := "CleaningBench$Law"
def TX1 : u_T := fun k => match k with
  | 0 => ("CleaningBench$Law", "kind", "I", false)
  | 1 => ("CleaningBench$Law", "table", "I", false)
  | 2 => ("CleaningBench$Law", "first", "I", false)
  | 3 => ("CleaningBench$Law", "second", "I", false)
  | 4 => ("CleaningBench$Law", "other", "I", false)
  | 5 => ("CleaningBench$Law", "c", "J", false)
  | 6 => ("CleaningBench$Law", "d", "J", false)
  | _ => ("CleaningBench$Law", "inForce", "Z", false)
def tyX1 : Nat → FieldType := fun k => match k with
  | 0 => .int
  | 1 => .int
  | 2 => .int
  | 3 => .int
  | 4 => .int
  | 5 => .long
  | 6 => .long
  | _ => .boolean
abbrev wsX10 : List Cond := u_ws RX1 TX1 8
theorem nmX1 : ∀ a, a < 8 → ∀ b, b < 8 → a ≠ b → (TX1 a).2.1 ≠ (TX1 b).2.1 := by decide +kernel
theorem tyX1_ok : ∀ k, k < 8 → parseFieldDescriptor (TX1 k).2.2.1 = some (tyX1 k) := by decide +kernel
abbrev cX1_init : ByteArray := prog_3_method_1_code
def yX1_init : MethodName := ⟨RX1, "<init>", "()V"⟩
def RX2 : String := "CleaningBench$Laws"
def TX2 : u_T := fun k => match k with
  | 0 => ("CleaningBench$Laws", "rows", "LCleaningBench$Rows;", true)
  | 1 => ("CleaningBench$Laws", "list", "[LCleaningBench$Law;", true)
  | 2 => ("CleaningBench$Laws", "many", "I", false)
  | 3 => ("CleaningBench$Laws", "found", "[I", true)
  | _ => ("CleaningBench$Laws", "manyFound", "I", false)
def tyX2 : Nat → FieldType := fun k => match k with
  | 0 => .object "CleaningBench$Rows"
  | 1 => .array (.object "CleaningBench$Law")
  | 2 => .int
  | 3 => .array .int
  | _ => .int
abbrev wsX20 : List Cond := u_ws RX2 TX2 5
theorem nmX2 : ∀ a, a < 5 → ∀ b, b < 5 → a ≠ b → (TX2 a).2.1 ≠ (TX2 b).2.1 := by decide +kernel
theorem tyX2_ok : ∀ k, k < 5 → parseFieldDescriptor (TX2 k).2.2.1 = some (tyX2 k) := by decide +kernel
abbrev cX2_init : ByteArray := prog_4_method_1_code
def yX2_init : MethodName := ⟨RX2, "<init>", "(LCleaningBench$Rows;)V"⟩
abbrev cX2_add : ByteArray := prog_4_method_2_code
def yX2_add : MethodName := ⟨RX2, "add", "(II)LCleaningBench$Law;"⟩
abbrev cX2_leastBroken : ByteArray := prog_4_method_3_code
def yX2_leastBroken : MethodName := ⟨RX2, "leastBroken", "(I)I"⟩
abbrev cX2_find : ByteArray := prog_4_method_4_code
def yX2_find : MethodName := ⟨RX2, "find", "(LCleaningBench$Law;I)V"⟩
abbrev cX2_addFound : ByteArray := prog_4_method_5_code
def yX2_addFound : MethodName := ⟨RX2, "addFound", "(I)V"⟩
abbrev cX2_findSingles : ByteArray := prog_4_method_6_code
def yX2_findSingles : MethodName := ⟨RX2, "findSingles", "(LCleaningBench$Law;I)V"⟩
abbrev cX2_quarrelsAlone : ByteArray := prog_4_method_7_code
def yX2_quarrelsAlone : MethodName := ⟨RX2, "quarrelsAlone", "(LCleaningBench$Law;LCleaningBench$Row;)Z"⟩
abbrev cX2_findUnhelped : ByteArray := prog_4_method_8_code
def yX2_findUnhelped : MethodName := ⟨RX2, "findUnhelped", "(LCleaningBench$Law;I)V"⟩
abbrev cX2_findPairs : ByteArray := prog_4_method_9_code
def yX2_findPairs : MethodName := ⟨RX2, "findPairs", "(LCleaningBench$Law;I)V"⟩
abbrev cX2_quarrelTogether : ByteArray := prog_4_method_10_code
def yX2_quarrelTogether : MethodName := ⟨RX2, "quarrelTogether", "(LCleaningBench$Law;LCleaningBench$Row;LCleaningBench$Row;)Z"⟩
abbrev cX2_areNearer : ByteArray := prog_4_method_11_code
def yX2_areNearer : MethodName := ⟨RX2, "areNearer", "(JJJ)Z"⟩
abbrev cX2_findSums : ByteArray := prog_4_method_12_code
def yX2_findSums : MethodName := ⟨RX2, "findSums", "(LCleaningBench$Law;I)V"⟩
abbrev cX2_isLeastSum : ByteArray := prog_4_method_13_code
def yX2_isLeastSum : MethodName := ⟨RX2, "isLeastSum", "(LCleaningBench$Law;II)Z"⟩
def RX3 : String := "CleaningBench$Mendings"
def TX3 : u_T := fun k => match k with
  | 0 => ("CleaningBench$Mendings", "rows", "LCleaningBench$Rows;", true)
  | 1 => ("CleaningBench$Mendings", "laws", "LCleaningBench$Laws;", true)
  | 2 => ("CleaningBench$Mendings", "least", "[I", true)
  | 3 => ("CleaningBench$Mendings", "many", "I", false)
  | 4 => ("CleaningBench$Mendings", "kept", "I", false)
  | 5 => ("CleaningBench$Mendings", "broken", "[Z", true)
  | _ => ("CleaningBench$Mendings", "covers", "[Z", true)
def tyX3 : Nat → FieldType := fun k => match k with
  | 0 => .object "CleaningBench$Rows"
  | 1 => .object "CleaningBench$Laws"
  | 2 => .array .int
  | 3 => .int
  | 4 => .int
  | 5 => .array .boolean
  | _ => .array .boolean
abbrev wsX30 : List Cond := u_ws RX3 TX3 7
theorem nmX3 : ∀ a, a < 7 → ∀ b, b < 7 → a ≠ b → (TX3 a).2.1 ≠ (TX3 b).2.1 := by decide +kernel
theorem tyX3_ok : ∀ k, k < 7 → parseFieldDescriptor (TX3 k).2.2.1 = some (tyX3 k) := by decide +kernel
abbrev cX3_init : ByteArray := prog_5_method_1_code
def yX3_init : MethodName := ⟨RX3, "<init>", "(LCleaningBench$Rows;LCleaningBench$Laws;)V"⟩
abbrev cX3_find : ByteArray := prog_5_method_2_code
def yX3_find : MethodName := ⟨RX3, "find", "()V"⟩
abbrev cX3_isMoreThanOne : ByteArray := prog_5_method_3_code
def yX3_isMoreThanOne : MethodName := ⟨RX3, "isMoreThanOne", "(I)Z"⟩
abbrev cX3_findBroken : ByteArray := prog_5_method_4_code
def yX3_findBroken : MethodName := ⟨RX3, "findBroken", "()V"⟩
abbrev cX3_breakAmong : ByteArray := prog_5_method_5_code
def yX3_breakAmong : MethodName := ⟨RX3, "breakAmong", "(LCleaningBench$Law;)V"⟩
abbrev cX3_breakWithout : ByteArray := prog_5_method_6_code
def yX3_breakWithout : MethodName := ⟨RX3, "breakWithout", "(II)V"⟩
abbrev cX3_leftBy : ByteArray := prog_5_method_7_code
def yX3_leftBy : MethodName := ⟨RX3, "leftBy", "(I)I"⟩
abbrev cX3_cheapest : ByteArray := prog_5_method_8_code
def yX3_cheapest : MethodName := ⟨RX3, "cheapest", "()I"⟩
def RX4 : String := "CleaningBench$Part"
def TX4 : u_T := fun k => match k with
  | 0 => ("CleaningBench$Part", "told", "[Z", true)
  | 1 => ("CleaningBench$Part", "numbers", "[J", true)
  | _ => ("CleaningBench$Part", "table", "I", false)
def tyX4 : Nat → FieldType := fun k => match k with
  | 0 => .array .boolean
  | 1 => .array .long
  | _ => .int
abbrev wsX40 : List Cond := u_ws RX4 TX4 3
theorem nmX4 : ∀ a, a < 3 → ∀ b, b < 3 → a ≠ b → (TX4 a).2.1 ≠ (TX4 b).2.1 := by decide +kernel
theorem tyX4_ok : ∀ k, k < 3 → parseFieldDescriptor (TX4 k).2.2.1 = some (tyX4 k) := by decide +kernel
abbrev cX4_init : ByteArray := prog_6_method_1_code
def yX4_init : MethodName := ⟨RX4, "<init>", "()V"⟩
def RX5 : String := "CleaningBench$Question"
def TX5 : u_T := fun k => match k with
  | 0 => ("CleaningBench$Question", "rows", "LCleaningBench$Rows;", true)
  | 1 => ("CleaningBench$Question", "parts", "[LCleaningBench$Part;", true)
  | 2 => ("CleaningBench$Question", "manyParts", "I", false)
  | 3 => ("CleaningBench$Question", "joins", "[LCleaningBench$Join;", true)
  | 4 => ("CleaningBench$Question", "manyJoins", "I", false)
  | 5 => ("CleaningBench$Question", "fitting", "[I", true)
  | 6 => ("CleaningBench$Question", "tried", "[I", true)
  | _ => ("CleaningBench$Question", "standing", "[Z", true)
def tyX5 : Nat → FieldType := fun k => match k with
  | 0 => .object "CleaningBench$Rows"
  | 1 => .array (.object "CleaningBench$Part")
  | 2 => .int
  | 3 => .array (.object "CleaningBench$Join")
  | 4 => .int
  | 5 => .array .int
  | 6 => .array .int
  | _ => .array .boolean
abbrev wsX50 : List Cond := u_ws RX5 TX5 8
theorem nmX5 : ∀ a, a < 8 → ∀ b, b < 8 → a ≠ b → (TX5 a).2.1 ≠ (TX5 b).2.1 := by decide +kernel
theorem tyX5_ok : ∀ k, k < 8 → parseFieldDescriptor (TX5 k).2.2.1 = some (tyX5 k) := by decide +kernel
abbrev cX5_init : ByteArray := prog_7_method_1_code
def yX5_init : MethodName := ⟨RX5, "<init>", "(LCleaningBench$Rows;)V"⟩
abbrev cX5_clear : ByteArray := prog_7_method_2_code
def yX5_clear : MethodName := ⟨RX5, "clear", "()V"⟩
abbrev cX5_addPart : ByteArray := prog_7_method_3_code
def yX5_addPart : MethodName := ⟨RX5, "addPart", "(I)I"⟩
abbrev cX5_addJoin : ByteArray := prog_7_method_4_code
def yX5_addJoin : MethodName := ⟨RX5, "addJoin", "(IIII)I"⟩
abbrev cX5_standsIn : ByteArray := prog_7_method_5_code
def yX5_standsIn : MethodName := ⟨RX5, "standsIn", "(I)Z"⟩
abbrev cX5_findStanding : ByteArray := prog_7_method_6_code
def yX5_findStanding : MethodName := ⟨RX5, "findStanding", "(I)V"⟩
abbrev cX5_findFitting : ByteArray := prog_7_method_7_code
def yX5_findFitting : MethodName := ⟨RX5, "findFitting", "(I)V"⟩
abbrev cX5_fittingOf : ByteArray := prog_7_method_8_code
def yX5_fittingOf : MethodName := ⟨RX5, "fittingOf", "(LCleaningBench$Part;I)I"⟩
abbrev cX5_hasTold : ByteArray := prog_7_method_9_code
def yX5_hasTold : MethodName := ⟨RX5, "hasTold", "(LCleaningBench$Part;LCleaningBench$Row;)Z"⟩
abbrev cX5_manyTries : ByteArray := prog_7_method_10_code
def yX5_manyTries : MethodName := ⟨RX5, "manyTries", "()I"⟩
abbrev cX5_stood : ByteArray := prog_7_method_11_code
def yX5_stood : MethodName := ⟨RX5, "stood", "(I)Z"⟩
abbrev cX5_isJoined : ByteArray := prog_7_method_12_code
def yX5_isJoined : MethodName := ⟨RX5, "isJoined", "(LCleaningBench$Join;)Z"⟩
abbrev cX5_triedRows : ByteArray := prog_7_method_13_code
def yX5_triedRows : MethodName := ⟨RX5, "triedRows", "()I"⟩
def RX6 : String := "CleaningBench$Row"
def TX6 : u_T := fun k => match k with
  | 0 => ("CleaningBench$Row", "numbers", "[J", true)
  | 1 => ("CleaningBench$Row", "there", "[Z", true)
  | 2 => ("CleaningBench$Row", "table", "I", false)
  | 3 => ("CleaningBench$Row", "trust", "I", false)
  | _ => ("CleaningBench$Row", "kept", "Z", false)
def tyX6 : Nat → FieldType := fun k => match k with
  | 0 => .array .long
  | 1 => .array .boolean
  | 2 => .int
  | 3 => .int
  | _ => .boolean
abbrev wsX60 : List Cond := u_ws RX6 TX6 5
theorem nmX6 : ∀ a, a < 5 → ∀ b, b < 5 → a ≠ b → (TX6 a).2.1 ≠ (TX6 b).2.1 := by decide +kernel
theorem tyX6_ok : ∀ k, k < 5 → parseFieldDescriptor (TX6 k).2.2.1 = some (tyX6 k) := by decide +kernel
abbrev cX6_init : ByteArray := prog_8_method_1_code
def yX6_init : MethodName := ⟨RX6, "<init>", "()V"⟩
def RX7 : String := "CleaningBench$Rows"
def TX7 : u_T := fun k => match k with
  | 0 => ("CleaningBench$Rows", "list", "[LCleaningBench$Row;", true)
  | _ => ("CleaningBench$Rows", "many", "I", false)
def tyX7 : Nat → FieldType := fun k => match k with
  | 0 => .array (.object "CleaningBench$Row")
  | _ => .int
abbrev wsX70 : List Cond := u_ws RX7 TX7 2
theorem nmX7 : ∀ a, a < 2 → ∀ b, b < 2 → a ≠ b → (TX7 a).2.1 ≠ (TX7 b).2.1 := by decide +kernel
theorem tyX7_ok : ∀ k, k < 2 → parseFieldDescriptor (TX7 k).2.2.1 = some (tyX7 k) := by decide +kernel
abbrev cX7_init : ByteArray := prog_9_method_1_code
def yX7_init : MethodName := ⟨RX7, "<init>", "()V"⟩
abbrev cX7_add : ByteArray := prog_9_method_2_code
def yX7_add : MethodName := ⟨RX7, "add", "(II)I"⟩
abbrev cX7_kept : ByteArray := prog_9_method_3_code
def yX7_kept : MethodName := ⟨RX7, "kept", "()I"⟩
abbrev cX7_drop : ByteArray := prog_9_method_4_code
def yX7_drop : MethodName := ⟨RX7, "drop", "(I)V"⟩
abbrev cX7_manyOf : ByteArray := prog_9_method_5_code
def yX7_manyOf : MethodName := ⟨RX7, "manyOf", "(I)I"⟩
abbrev cX7_trustOf : ByteArray := prog_9_method_6_code
def yX7_trustOf : MethodName := ⟨RX7, "trustOf", "(I)I"⟩
abbrev cX7_withCell : ByteArray := prog_9_method_7_code
def yX7_withCell : MethodName := ⟨RX7, "withCell", "(III)I"⟩
abbrev cX7_withNumber : ByteArray := prog_9_method_8_code
def yX7_withNumber : MethodName := ⟨RX7, "withNumber", "(IIJI)I"⟩
abbrev cX7_aboveZero : ByteArray := prog_9_method_9_code
def yX7_aboveZero : MethodName := ⟨RX7, "aboveZero", "(II)I"⟩
abbrev cX7_added : ByteArray := prog_9_method_10_code
def yX7_added : MethodName := ⟨RX7, "added", "(III)J"⟩
abbrev cX7_settleAll : ByteArray := prog_9_method_11_code
def yX7_settleAll : MethodName := ⟨RX7, "settleAll", "(III)I"⟩
abbrev cX7_settleGroup : ByteArray := prog_9_method_12_code
def yX7_settleGroup : MethodName := ⟨RX7, "settleGroup", "(III)I"⟩
abbrev cX7_mostTrusted : ByteArray := prog_9_method_13_code
def yX7_mostTrusted : MethodName := ⟨RX7, "mostTrusted", "(III)J"⟩
def RX8 : String := "CleaningBench$Table"
def TX8 : u_T := fun k => match k with
  | 0 => ("CleaningBench$Table", "lanes", "[I", true)
  | _ => ("CleaningBench$Table", "columns", "I", false)
def tyX8 : Nat → FieldType := fun k => match k with
  | 0 => .array .int
  | _ => .int
abbrev wsX80 : List Cond := u_ws RX8 TX8 2
theorem nmX8 : ∀ a, a < 2 → ∀ b, b < 2 → a ≠ b → (TX8 a).2.1 ≠ (TX8 b).2.1 := by decide +kernel
theorem tyX8_ok : ∀ k, k < 2 → parseFieldDescriptor (TX8 k).2.2.1 = some (tyX8 k) := by decide +kernel
abbrev cX8_init : ByteArray := prog_10_method_1_code
def yX8_init : MethodName := ⟨RX8, "<init>", "()V"⟩
abbrev cX8_make : ByteArray := prog_10_method_2_code
def yX8_make : MethodName := ⟨RX8, "make", "(II)V"⟩
def RX9 : String := "CleaningBench"
def TX9 : u_T := fun k => match k with
  | 0 => ("CleaningBench", "tables", "[LCleaningBench$Table;", true)
  | 1 => ("CleaningBench", "rows", "LCleaningBench$Rows;", true)
  | 2 => ("CleaningBench", "laws", "LCleaningBench$Laws;", true)
  | 3 => ("CleaningBench", "mendings", "LCleaningBench$Mendings;", true)
  | 4 => ("CleaningBench", "question", "LCleaningBench$Question;", true)
  | _ => ("CleaningBench", "findings", "I", false)
def tyX9 : Nat → FieldType := fun k => match k with
  | 0 => .array (.object "CleaningBench$Table")
  | 1 => .object "CleaningBench$Rows"
  | 2 => .object "CleaningBench$Laws"
  | 3 => .object "CleaningBench$Mendings"
  | 4 => .object "CleaningBench$Question"
  | _ => .int
abbrev wsX90 : List Cond := u_ws RX9 TX9 6
theorem nmX9 : ∀ a, a < 6 → ∀ b, b < 6 → a ≠ b → (TX9 a).2.1 ≠ (TX9 b).2.1 := by decide +kernel
theorem tyX9_ok : ∀ k, k < 6 → parseFieldDescriptor (TX9 k).2.2.1 = some (tyX9 k) := by decide +kernel
abbrev cX9_init : ByteArray := prog_1_method_1_code
def yX9_init : MethodName := ⟨RX9, "<init>", "()V"⟩
abbrev cX9_table : ByteArray := prog_1_method_2_code
def yX9_table : MethodName := ⟨RX9, "table", "(III)I"⟩
abbrev cX9_row : ByteArray := prog_1_method_3_code
def yX9_row : MethodName := ⟨RX9, "row", "(II)I"⟩
abbrev cX9_put : ByteArray := prog_1_method_4_code
def yX9_put : MethodName := ⟨RX9, "put", "(IIJ)I"⟩
abbrev cX9_miss : ByteArray := prog_1_method_5_code
def yX9_miss : MethodName := ⟨RX9, "miss", "(II)I"⟩
abbrev cX9_has : ByteArray := prog_1_method_6_code
def yX9_has : MethodName := ⟨RX9, "has", "(II)I"⟩
abbrev cX9_cell : ByteArray := prog_1_method_7_code
def yX9_cell : MethodName := ⟨RX9, "cell", "(II)J"⟩
abbrev cX9_column : ByteArray := prog_1_method_8_code
def yX9_column : MethodName := ⟨RX9, "column", "(III)I"⟩
abbrev cX9_trust : ByteArray := prog_1_method_9_code
def yX9_trust : MethodName := ⟨RX9, "trust", "(II)I"⟩
abbrev cX9_keep : ByteArray := prog_1_method_10_code
def yX9_keep : MethodName := ⟨RX9, "keep", "(IZ)I"⟩
abbrev cX9_about : ByteArray := prog_1_method_11_code
def yX9_about : MethodName := ⟨RX9, "about", "(II)I"⟩
abbrev cX9_law : ByteArray := prog_1_method_12_code
def yX9_law : MethodName := ⟨RX9, "law", "(IIIIJJ)I"⟩
abbrev cX9_among : ByteArray := prog_1_method_13_code
def yX9_among : MethodName := ⟨RX9, "among", "(IIII)I"⟩
abbrev cX9_force : ByteArray := prog_1_method_14_code
def yX9_force : MethodName := ⟨RX9, "force", "(IZ)I"⟩
abbrev cX9_most : ByteArray := prog_1_method_15_code
def yX9_most : MethodName := ⟨RX9, "most", "(I)J"⟩
abbrev cX9_quarrels : ByteArray := prog_1_method_16_code
def yX9_quarrels : MethodName := ⟨RX9, "quarrels", "(I)I"⟩
abbrev cX9_quarrel : ByteArray := prog_1_method_17_code
def yX9_quarrel : MethodName := ⟨RX9, "quarrel", "(II)I"⟩
abbrev cX9_clean : ByteArray := prog_1_method_18_code
def yX9_clean : MethodName := ⟨RX9, "clean", "()I"⟩
abbrev cX9_breaks : ByteArray := prog_1_method_19_code
def yX9_breaks : MethodName := ⟨RX9, "breaks", "(I)I"⟩
abbrev cX9_mends : ByteArray := prog_1_method_20_code
def yX9_mends : MethodName := ⟨RX9, "mends", "()I"⟩
abbrev cX9_mending : ByteArray := prog_1_method_21_code
def yX9_mending : MethodName := ⟨RX9, "mending", "(I)I"⟩
abbrev cX9_price : ByteArray := prog_1_method_22_code
def yX9_price : MethodName := ⟨RX9, "price", "()I"⟩
abbrev cX9_best : ByteArray := prog_1_method_23_code
def yX9_best : MethodName := ⟨RX9, "best", "()I"⟩
abbrev cX9_blame : ByteArray := prog_1_method_24_code
def yX9_blame : MethodName := ⟨RX9, "blame", "(I)I"⟩
abbrev cX9_sum : ByteArray := prog_1_method_25_code
def yX9_sum : MethodName := ⟨RX9, "sum", "(IIZ)J"⟩
abbrev cX9_mend : ByteArray := prog_1_method_26_code
def yX9_mend : MethodName := ⟨RX9, "mend", "()I"⟩
abbrev cX9_settle : ByteArray := prog_1_method_27_code
def yX9_settle : MethodName := ⟨RX9, "settle", "(I)I"⟩
abbrev cX9_ask : ByteArray := prog_1_method_28_code
def yX9_ask : MethodName := ⟨RX9, "ask", "()I"⟩
abbrev cX9_part : ByteArray := prog_1_method_29_code
def yX9_part : MethodName := ⟨RX9, "part", "(I)I"⟩
abbrev cX9_tell : ByteArray := prog_1_method_30_code
def yX9_tell : MethodName := ⟨RX9, "tell", "(IIJ)I"⟩
abbrev cX9_join : ByteArray := prog_1_method_31_code
def yX9_join : MethodName := ⟨RX9, "join", "(IIII)I"⟩
abbrev cX9_stands : ByteArray := prog_1_method_32_code
def yX9_stands : MethodName := ⟨RX9, "stands", "()I"⟩
abbrev cX9_often : ByteArray := prog_1_method_33_code
def yX9_often : MethodName := ⟨RX9, "often", "()I"⟩
abbrev cX9_sure : ByteArray := prog_1_method_34_code
def yX9_sure : MethodName := ⟨RX9, "sure", "()I"⟩
abbrev cX9_against : ByteArray := prog_1_method_35_code
def yX9_against : MethodName := ⟨RX9, "against", "()I"⟩
abbrev cX9_count : ByteArray := prog_1_method_36_code
def yX9_count : MethodName := ⟨RX9, "count", "(I)I"⟩
abbrev cX9_found : ByteArray := prog_1_method_37_code
def yX9_found : MethodName := ⟨RX9, "found", "(I)I"⟩
abbrev cX9_faultOfTable : ByteArray := prog_1_method_38_code
def yX9_faultOfTable : MethodName := ⟨RX9, "faultOfTable", "(I)I"⟩
abbrev cX9_faultOfColumn : ByteArray := prog_1_method_39_code
def yX9_faultOfColumn : MethodName := ⟨RX9, "faultOfColumn", "(II)I"⟩
abbrev cX9_faultOfColumnIn : ByteArray := prog_1_method_40_code
def yX9_faultOfColumnIn : MethodName := ⟨RX9, "faultOfColumnIn", "(II)I"⟩
abbrev cX9_faultOfCell : ByteArray := prog_1_method_41_code
def yX9_faultOfCell : MethodName := ⟨RX9, "faultOfCell", "(II)I"⟩
abbrev cX9_faultOfPart : ByteArray := prog_1_method_42_code
def yX9_faultOfPart : MethodName := ⟨RX9, "faultOfPart", "(II)I"⟩
abbrev cX9_isRow : ByteArray := prog_1_method_43_code
def yX9_isRow : MethodName := ⟨RX9, "isRow", "(I)Z"⟩
abbrev cX9_isLaw : ByteArray := prog_1_method_44_code
def yX9_isLaw : MethodName := ⟨RX9, "isLaw", "(I)Z"⟩
abbrev cX9_isPart : ByteArray := prog_1_method_45_code
def yX9_isPart : MethodName := ⟨RX9, "isPart", "(I)Z"⟩
abbrev cX9_isTrust : ByteArray := prog_1_method_46_code
def yX9_isTrust : MethodName := ⟨RX9, "isTrust", "(I)Z"⟩
abbrev cX9_areLanes : ByteArray := prog_1_method_47_code
def yX9_areLanes : MethodName := ⟨RX9, "areLanes", "(II)Z"⟩
abbrev cX9_looksAtTwo : ByteArray := prog_1_method_48_code
def yX9_looksAtTwo : MethodName := ⟨RX9, "looksAtTwo", "(I)Z"⟩
abbrev cX9_manyTables : ByteArray := prog_1_method_49_code
def yX9_manyTables : MethodName := ⟨RX9, "manyTables", "()I"⟩
abbrev cX9_timesStanding : ByteArray := prog_1_method_50_code
def yX9_timesStanding : MethodName := ⟨RX9, "timesStanding", "()I"⟩
abbrev cX9_oneIf : ByteArray := prog_1_method_51_code
def yX9_oneIf : MethodName := ⟨RX9, "oneIf", "(Z)I"⟩
abbrev cX9_isIn : ByteArray := prog_1_method_52_code
def yX9_isIn : MethodName := ⟨RX9, "isIn", "(II)Z"⟩
abbrev cX9_asLane : ByteArray := prog_1_method_53_code
def yX9_asLane : MethodName := ⟨RX9, "asLane", "(IJ)J"⟩
abbrev cX9_markWholes : ByteArray := prog_1_method_54_code
def yX9_markWholes : MethodName := ⟨RX9, "markWholes", "([ZI)V"⟩
abbrev cX9_unmark : ByteArray := prog_1_method_55_code
def yX9_unmark : MethodName := ⟨RX9, "unmark", "([ZI)V"⟩
def RX10 : String := "CleaningBenchModel"
def TX10 : u_T := fun k => match k with
  | 0 => ("CleaningBenchModel", "thrown", "I", false)
  | 1 => ("CleaningBenchModel", "columns", "[I", true)
  | 2 => ("CleaningBenchModel", "laneOf", "[I", true)
  | 3 => ("CleaningBenchModel", "rows", "I", false)
  | 4 => ("CleaningBenchModel", "tableOf", "[I", true)
  | 5 => ("CleaningBenchModel", "trustOf", "[I", true)
  | 6 => ("CleaningBenchModel", "isKept", "[Z", true)
  | 7 => ("CleaningBenchModel", "isThere", "[Z", true)
  | 8 => ("CleaningBenchModel", "told", "[J", true)
  | 9 => ("CleaningBenchModel", "laws", "I", false)
  | 10 => ("CleaningBenchModel", "kind", "[I", true)
  | 11 => ("CleaningBenchModel", "lawTable", "[I", true)
  | 12 => ("CleaningBenchModel", "colA", "[I", true)
  | 13 => ("CleaningBenchModel", "colB", "[I", true)
  | 14 => ("CleaningBenchModel", "lawOther", "[I", true)
  | 15 => ("CleaningBenchModel", "numC", "[J", true)
  | 16 => ("CleaningBenchModel", "numD", "[J", true)
  | 17 => ("CleaningBenchModel", "isInForce", "[Z", true)
  | 18 => ("CleaningBenchModel", "findings", "I", false)
  | 19 => ("CleaningBenchModel", "parts", "I", false)
  | 20 => ("CleaningBenchModel", "partTable", "[I", true)
  | 21 => ("CleaningBenchModel", "isTold", "[Z", true)
  | 22 => ("CleaningBenchModel", "tellOf", "[J", true)
  | 23 => ("CleaningBenchModel", "joins", "I", false)
  | 24 => ("CleaningBenchModel", "joinP", "[I", true)
  | 25 => ("CleaningBenchModel", "joinC", "[I", true)
  | 26 => ("CleaningBenchModel", "joinQ", "[I", true)
  | 27 => ("CleaningBenchModel", "joinD", "[I", true)
  | 28 => ("CleaningBenchModel", "isKnown", "Z", false)
  | 29 => ("CleaningBenchModel", "many", "I", false)
  | 30 => ("CleaningBenchModel", "leastOf", "[I", true)
  | 31 => ("CleaningBenchModel", "mendsBy", "[Z", true)
  | 32 => ("CleaningBenchModel", "quarrelsFound", "I", false)
  | 33 => ("CleaningBenchModel", "quarrelOf", "[I", true)
  | 34 => ("CleaningBenchModel", "become", "[J", true)
  | _ => ("CleaningBenchModel", "rowOf", "[I", true)
def tyX10 : Nat → FieldType := fun k => match k with
  | 0 => .int
  | 1 => .array .int
  | 2 => .array .int
  | 3 => .int
  | 4 => .array .int
  | 5 => .array .int
  | 6 => .array .boolean
  | 7 => .array .boolean
  | 8 => .array .long
  | 9 => .int
  | 10 => .array .int
  | 11 => .array .int
  | 12 => .array .int
  | 13 => .array .int
  | 14 => .array .int
  | 15 => .array .long
  | 16 => .array .long
  | 17 => .array .boolean
  | 18 => .int
  | 19 => .int
  | 20 => .array .int
  | 21 => .array .boolean
  | 22 => .array .long
  | 23 => .int
  | 24 => .array .int
  | 25 => .array .int
  | 26 => .array .int
  | 27 => .array .int
  | 28 => .boolean
  | 29 => .int
  | 30 => .array .int
  | 31 => .array .boolean
  | 32 => .int
  | 33 => .array .int
  | 34 => .array .long
  | _ => .array .int
abbrev wsX100 : List Cond := u_ws RX10 TX10 36
theorem nmX10 : ∀ a, a < 36 → ∀ b, b < 36 → a ≠ b → (TX10 a).2.1 ≠ (TX10 b).2.1 := by decide +kernel
theorem tyX10_ok : ∀ k, k < 36 → parseFieldDescriptor (TX10 k).2.2.1 = some (tyX10 k) := by decide +kernel
abbrev cX10_init : ByteArray := prog_12_method_1_code
def yX10_init : MethodName := ⟨RX10, "<init>", "()V"⟩
abbrev cX10_in : ByteArray := prog_12_method_3_code
def yX10_in : MethodName := ⟨RX10, "in", "(JJJ)Z"⟩
abbrev cX10_finds : ByteArray := prog_12_method_4_code
def yX10_finds : MethodName := ⟨RX10, "finds", "(I)I"⟩
abbrev cX10_lack : ByteArray := prog_12_method_5_code
def yX10_lack : MethodName := ⟨RX10, "lack", "(I)I"⟩
abbrev cX10_noRow : ByteArray := prog_12_method_6_code
def yX10_noRow : MethodName := ⟨RX10, "noRow", "(I)Z"⟩
abbrev cX10_noLaw : ByteArray := prog_12_method_7_code
def yX10_noLaw : MethodName := ⟨RX10, "noLaw", "(I)Z"⟩
abbrev cX10_noColumn : ByteArray := prog_12_method_8_code
def yX10_noColumn : MethodName := ⟨RX10, "noColumn", "(II)Z"⟩
abbrev cX10_table : ByteArray := prog_12_method_9_code
def yX10_table : MethodName := ⟨RX10, "table", "(III)I"⟩
abbrev cX10_row : ByteArray := prog_12_method_10_code
def yX10_row : MethodName := ⟨RX10, "row", "(II)I"⟩
abbrev cX10_lies : ByteArray := prog_12_method_11_code
def yX10_lies : MethodName := ⟨RX10, "lies", "(IJ)J"⟩
abbrev cX10_put : ByteArray := prog_12_method_12_code
def yX10_put : MethodName := ⟨RX10, "put", "(IIJ)I"⟩
abbrev cX10_miss : ByteArray := prog_12_method_13_code
def yX10_miss : MethodName := ⟨RX10, "miss", "(II)I"⟩
abbrev cX10_has : ByteArray := prog_12_method_14_code
def yX10_has : MethodName := ⟨RX10, "has", "(II)I"⟩
abbrev cX10_cell : ByteArray := prog_12_method_15_code
def yX10_cell : MethodName := ⟨RX10, "cell", "(II)J"⟩
abbrev cX10_column : ByteArray := prog_12_method_16_code
def yX10_column : MethodName := ⟨RX10, "column", "(III)I"⟩
abbrev cX10_trust : ByteArray := prog_12_method_17_code
def yX10_trust : MethodName := ⟨RX10, "trust", "(II)I"⟩
abbrev cX10_keep : ByteArray := prog_12_method_18_code
def yX10_keep : MethodName := ⟨RX10, "keep", "(IZ)I"⟩
abbrev cX10_about : ByteArray := prog_12_method_19_code
def yX10_about : MethodName := ⟨RX10, "about", "(II)I"⟩
abbrev cX10_add : ByteArray := prog_12_method_20_code
def yX10_add : MethodName := ⟨RX10, "add", "(IIIIIJJ)I"⟩
abbrev cX10_law : ByteArray := prog_12_method_21_code
def yX10_law : MethodName := ⟨RX10, "law", "(IIIIJJ)I"⟩
abbrev cX10_among : ByteArray := prog_12_method_22_code
def yX10_among : MethodName := ⟨RX10, "among", "(IIII)I"⟩
abbrev cX10_force : ByteArray := prog_12_method_23_code
def yX10_force : MethodName := ⟨RX10, "force", "(IZ)I"⟩
abbrev cX10_most : ByteArray := prog_12_method_24_code
def yX10_most : MethodName := ⟨RX10, "most", "(I)J"⟩
abbrev cX10_keptSet : ByteArray := prog_12_method_25_code
def yX10_keptSet : MethodName := ⟨RX10, "keptSet", "()I"⟩
abbrev cX10_isLike : ByteArray := prog_12_method_26_code
def yX10_isLike : MethodName := ⟨RX10, "isLike", "(IIII)Z"⟩
abbrev cX10_breakTwo : ByteArray := prog_12_method_27_code
def yX10_breakTwo : MethodName := ⟨RX10, "breakTwo", "(III)Z"⟩
abbrev cX10_breakOne : ByteArray := prog_12_method_28_code
def yX10_breakOne : MethodName := ⟨RX10, "breakOne", "(III)Z"⟩
abbrev cX10_isOf : ByteArray := prog_12_method_29_code
def yX10_isOf : MethodName := ⟨RX10, "isOf", "(III)Z"⟩
abbrev cX10_counts : ByteArray := prog_12_method_30_code
def yX10_counts : MethodName := ⟨RX10, "counts", "(II)Z"⟩
abbrev cX10_isMore : ByteArray := prog_12_method_31_code
def yX10_isMore : MethodName := ⟨RX10, "isMore", "(IIII)Z"⟩
abbrev cX10_breaksLaw : ByteArray := prog_12_method_32_code
def yX10_breaksLaw : MethodName := ⟨RX10, "breaksLaw", "(II)Z"⟩
abbrev cX10_bitsOf : ByteArray := prog_12_method_33_code
def yX10_bitsOf : MethodName := ⟨RX10, "bitsOf", "(I)I"⟩
abbrev cX10_isLeastSum : ByteArray := prog_12_method_34_code
def yX10_isLeastSum : MethodName := ⟨RX10, "isLeastSum", "(II)Z"⟩
abbrev cX10_findQuarrels : ByteArray := prog_12_method_35_code
def yX10_findQuarrels : MethodName := ⟨RX10, "findQuarrels", "(I)V"⟩
abbrev cX10_quarrels : ByteArray := prog_12_method_36_code
def yX10_quarrels : MethodName := ⟨RX10, "quarrels", "(I)I"⟩
abbrev cX10_quarrel : ByteArray := prog_12_method_37_code
def yX10_quarrel : MethodName := ⟨RX10, "quarrel", "(II)I"⟩
abbrev cX10_firstBroken : ByteArray := prog_12_method_38_code
def yX10_firstBroken : MethodName := ⟨RX10, "firstBroken", "(I)I"⟩
abbrev cX10_clean : ByteArray := prog_12_method_39_code
def yX10_clean : MethodName := ⟨RX10, "clean", "()I"⟩
abbrev cX10_breaks : ByteArray := prog_12_method_40_code
def yX10_breaks : MethodName := ⟨RX10, "breaks", "(I)I"⟩
abbrev cX10_know : ByteArray := prog_12_method_41_code
def yX10_know : MethodName := ⟨RX10, "know", "()V"⟩
abbrev cX10_priceOf : ByteArray := prog_12_method_42_code
def yX10_priceOf : MethodName := ⟨RX10, "priceOf", "(I)I"⟩
abbrev cX10_bestOf : ByteArray := prog_12_method_43_code
def yX10_bestOf : MethodName := ⟨RX10, "bestOf", "()I"⟩
abbrev cX10_mends : ByteArray := prog_12_method_44_code
def yX10_mends : MethodName := ⟨RX10, "mends", "()I"⟩
abbrev cX10_mending : ByteArray := prog_12_method_45_code
def yX10_mending : MethodName := ⟨RX10, "mending", "(I)I"⟩
abbrev cX10_price : ByteArray := prog_12_method_46_code
def yX10_price : MethodName := ⟨RX10, "price", "()I"⟩
abbrev cX10_best : ByteArray := prog_12_method_47_code
def yX10_best : MethodName := ⟨RX10, "best", "()I"⟩
abbrev cX10_blame : ByteArray := prog_12_method_48_code
def yX10_blame : MethodName := ⟨RX10, "blame", "(I)I"⟩
abbrev cX10_sum : ByteArray := prog_12_method_49_code
def yX10_sum : MethodName := ⟨RX10, "sum", "(IIZ)J"⟩
abbrev cX10_mend : ByteArray := prog_12_method_50_code
def yX10_mend : MethodName := ⟨RX10, "mend", "()I"⟩
abbrev cX10_settled : ByteArray := prog_12_method_51_code
def yX10_settled : MethodName := ⟨RX10, "settled", "(III)J"⟩
abbrev cX10_settle : ByteArray := prog_12_method_52_code
def yX10_settle : MethodName := ⟨RX10, "settle", "(I)I"⟩
abbrev cX10_noPart : ByteArray := prog_12_method_53_code
def yX10_noPart : MethodName := ⟨RX10, "noPart", "(I)Z"⟩
abbrev cX10_ask : ByteArray := prog_12_method_54_code
def yX10_ask : MethodName := ⟨RX10, "ask", "()I"⟩
abbrev cX10_part : ByteArray := prog_12_method_55_code
def yX10_part : MethodName := ⟨RX10, "part", "(I)I"⟩
abbrev cX10_tell : ByteArray := prog_12_method_56_code
def yX10_tell : MethodName := ⟨RX10, "tell", "(IIJ)I"⟩
abbrev cX10_join : ByteArray := prog_12_method_57_code
def yX10_join : MethodName := ⟨RX10, "join", "(IIII)I"⟩
abbrev cX10_fitsPart : ByteArray := prog_12_method_58_code
def yX10_fitsPart : MethodName := ⟨RX10, "fitsPart", "(III)Z"⟩
abbrev cX10_standsIn : ByteArray := prog_12_method_59_code
def yX10_standsIn : MethodName := ⟨RX10, "standsIn", "(I)Z"⟩
abbrev cX10_stands : ByteArray := prog_12_method_60_code
def yX10_stands : MethodName := ⟨RX10, "stands", "()I"⟩
abbrev cX10_oftenOf : ByteArray := prog_12_method_61_code
def yX10_oftenOf : MethodName := ⟨RX10, "oftenOf", "()I"⟩
abbrev cX10_often : ByteArray := prog_12_method_62_code
def yX10_often : MethodName := ⟨RX10, "often", "()I"⟩
abbrev cX10_sure : ByteArray := prog_12_method_63_code
def yX10_sure : MethodName := ⟨RX10, "sure", "()I"⟩
abbrev cX10_against : ByteArray := prog_12_method_64_code
def yX10_against : MethodName := ⟨RX10, "against", "()I"⟩
abbrev cX10_count : ByteArray := prog_12_method_65_code
def yX10_count : MethodName := ⟨RX10, "count", "(I)I"⟩
def RJ6 : String := "java/lang/Integer"
def TJ6 : u_T := fun k => match k with
  | _ => ("", "", "", false)
def tyJ6 : Nat → FieldType := fun k => match k with
  | _ => .int
abbrev cJ6_bitCount_0f7a4 : ByteArray := prog_13_method_49_code
def yJ6_bitCount_0f7a4 : MethodName := ⟨RJ6, "bitCount", "(I)I"⟩
def RL : String := "CleaningBenchLaw"
abbrev cL_law : ByteArray := code
def yL_law : MethodName := ⟨RL, "law", "([I)Z"⟩
abbrev vwCl : List vw_C := [(RX0, TX0, 4), (RX1, TX1, 8), (RX2, TX2, 5), (RX3, TX3, 7), (RX4, TX4, 3), (RX5, TX5, 8), (RX6, TX6, 5), (RX7, TX7, 2), (RX8, TX8, 2), (RX9, TX9, 6), (RX10, TX10, 36)]
end
section
-- names, fields, the words of the tables by their places: by program (wip/whole/gen01.py) out of the claim's printed texts
theorem se_X9_found : Cond.selects RX9 yX9_found yX9_found ∈ lw_tbl := List.mem_of_getElem? (i := 0) (by decide +kernel)
theorem se_X9_faultOfTable : Cond.selects RX9 yX9_faultOfTable yX9_faultOfTable ∈ lw_tbl := List.mem_of_getElem? (i := 1) (by decide +kernel)
theorem se_X9_faultOfCell : Cond.selects RX9 yX9_faultOfCell yX9_faultOfCell ∈ lw_tbl := List.mem_of_getElem? (i := 2) (by decide +kernel)
theorem se_X9_isRow : Cond.selects RX9 yX9_isRow yX9_isRow ∈ lw_tbl := List.mem_of_getElem? (i := 3) (by decide +kernel)
theorem se_X9_faultOfColumn : Cond.selects RX9 yX9_faultOfColumn yX9_faultOfColumn ∈ lw_tbl := List.mem_of_getElem? (i := 4) (by decide +kernel)
theorem se_X9_faultOfColumnIn : Cond.selects RX9 yX9_faultOfColumnIn yX9_faultOfColumnIn ∈ lw_tbl := List.mem_of_getElem? (i := 5) (by decide +kernel)
theorem se_X9_isLaw : Cond.selects RX9 yX9_isLaw yX9_isLaw ∈ lw_tbl := List.mem_of_getElem? (i := 6) (by decide +kernel)
theorem se_X9_faultOfPart : Cond.selects RX9 yX9_faultOfPart yX9_faultOfPart ∈ lw_tbl := List.mem_of_getElem? (i := 7) (by decide +kernel)
theorem se_X9_isPart : Cond.selects RX9 yX9_isPart yX9_isPart ∈ lw_tbl := List.mem_of_getElem? (i := 8) (by decide +kernel)
theorem se_X9_timesStanding : Cond.selects RX9 yX9_timesStanding yX9_timesStanding ∈ lw_tbl := List.mem_of_getElem? (i := 9) (by decide +kernel)
theorem se_X9_manyTables : Cond.selects RX9 yX9_manyTables yX9_manyTables ∈ lw_tbl := List.mem_of_getElem? (i := 10) (by decide +kernel)
theorem se_X10_finds : Cond.selects RX10 yX10_finds yX10_finds ∈ lw_tbl := List.mem_of_getElem? (i := 11) (by decide +kernel)
theorem se_X10_lack : Cond.selects RX10 yX10_lack yX10_lack ∈ lw_tbl := List.mem_of_getElem? (i := 12) (by decide +kernel)
theorem se_X10_noRow : Cond.selects RX10 yX10_noRow yX10_noRow ∈ lw_tbl := List.mem_of_getElem? (i := 13) (by decide +kernel)
theorem se_X10_noColumn : Cond.selects RX10 yX10_noColumn yX10_noColumn ∈ lw_tbl := List.mem_of_getElem? (i := 14) (by decide +kernel)
theorem se_X10_add : Cond.selects RX10 yX10_add yX10_add ∈ lw_tbl := List.mem_of_getElem? (i := 15) (by decide +kernel)
theorem se_X10_noLaw : Cond.selects RX10 yX10_noLaw yX10_noLaw ∈ lw_tbl := List.mem_of_getElem? (i := 16) (by decide +kernel)
theorem se_X10_findQuarrels : Cond.selects RX10 yX10_findQuarrels yX10_findQuarrels ∈ lw_tbl := List.mem_of_getElem? (i := 17) (by decide +kernel)
theorem se_X10_keptSet : Cond.selects RX10 yX10_keptSet yX10_keptSet ∈ lw_tbl := List.mem_of_getElem? (i := 18) (by decide +kernel)
theorem se_X10_isLeastSum : Cond.selects RX10 yX10_isLeastSum yX10_isLeastSum ∈ lw_tbl := List.mem_of_getElem? (i := 19) (by decide +kernel)
theorem se_X10_isOf : Cond.selects RX10 yX10_isOf yX10_isOf ∈ lw_tbl := List.mem_of_getElem? (i := 20) (by decide +kernel)
theorem se_X10_counts : Cond.selects RX10 yX10_counts yX10_counts ∈ lw_tbl := List.mem_of_getElem? (i := 21) (by decide +kernel)
theorem se_X10_isLike : Cond.selects RX10 yX10_isLike yX10_isLike ∈ lw_tbl := List.mem_of_getElem? (i := 22) (by decide +kernel)
theorem se_X10_isMore : Cond.selects RX10 yX10_isMore yX10_isMore ∈ lw_tbl := List.mem_of_getElem? (i := 23) (by decide +kernel)
theorem se_X10_breaksLaw : Cond.selects RX10 yX10_breaksLaw yX10_breaksLaw ∈ lw_tbl := List.mem_of_getElem? (i := 24) (by decide +kernel)
theorem se_X10_breakOne : Cond.selects RX10 yX10_breakOne yX10_breakOne ∈ lw_tbl := List.mem_of_getElem? (i := 25) (by decide +kernel)
theorem se_X10_breakTwo : Cond.selects RX10 yX10_breakTwo yX10_breakTwo ∈ lw_tbl := List.mem_of_getElem? (i := 26) (by decide +kernel)
theorem se_X10_firstBroken : Cond.selects RX10 yX10_firstBroken yX10_firstBroken ∈ lw_tbl := List.mem_of_getElem? (i := 27) (by decide +kernel)
theorem se_X10_know : Cond.selects RX10 yX10_know yX10_know ∈ lw_tbl := List.mem_of_getElem? (i := 28) (by decide +kernel)
theorem se_X10_bestOf : Cond.selects RX10 yX10_bestOf yX10_bestOf ∈ lw_tbl := List.mem_of_getElem? (i := 29) (by decide +kernel)
theorem se_X10_priceOf : Cond.selects RX10 yX10_priceOf yX10_priceOf ∈ lw_tbl := List.mem_of_getElem? (i := 30) (by decide +kernel)
theorem se_X10_settled : Cond.selects RX10 yX10_settled yX10_settled ∈ lw_tbl := List.mem_of_getElem? (i := 31) (by decide +kernel)
theorem se_X10_noPart : Cond.selects RX10 yX10_noPart yX10_noPart ∈ lw_tbl := List.mem_of_getElem? (i := 32) (by decide +kernel)
theorem se_X10_standsIn : Cond.selects RX10 yX10_standsIn yX10_standsIn ∈ lw_tbl := List.mem_of_getElem? (i := 33) (by decide +kernel)
theorem se_X10_fitsPart : Cond.selects RX10 yX10_fitsPart yX10_fitsPart ∈ lw_tbl := List.mem_of_getElem? (i := 34) (by decide +kernel)
theorem se_X10_oftenOf : Cond.selects RX10 yX10_oftenOf yX10_oftenOf ∈ lw_tbl := List.mem_of_getElem? (i := 35) (by decide +kernel)
theorem ini_L : Cond.initialized RL ∈ lw_tbl := List.mem_of_getElem? (i := 36) (by decide +kernel)
theorem ini_X9 : Cond.initialized RX9 ∈ lw_tbl := List.mem_of_getElem? (i := 37) (by decide +kernel)
theorem ini_X7 : Cond.initialized RX7 ∈ lw_tbl := List.mem_of_getElem? (i := 38) (by decide +kernel)
theorem ini_X6 : Cond.initialized RX6 ∈ lw_tbl := List.mem_of_getElem? (i := 39) (by decide +kernel)
theorem ini_X2 : Cond.initialized RX2 ∈ lw_tbl := List.mem_of_getElem? (i := 40) (by decide +kernel)
theorem ini_X1 : Cond.initialized RX1 ∈ lw_tbl := List.mem_of_getElem? (i := 41) (by decide +kernel)
theorem ini_X3 : Cond.initialized RX3 ∈ lw_tbl := List.mem_of_getElem? (i := 42) (by decide +kernel)
theorem ini_X5 : Cond.initialized RX5 ∈ lw_tbl := List.mem_of_getElem? (i := 43) (by decide +kernel)
theorem ini_X4 : Cond.initialized RX4 ∈ lw_tbl := List.mem_of_getElem? (i := 44) (by decide +kernel)
theorem ini_X0 : Cond.initialized RX0 ∈ lw_tbl := List.mem_of_getElem? (i := 45) (by decide +kernel)
theorem ini_X8 : Cond.initialized RX8 ∈ lw_tbl := List.mem_of_getElem? (i := 46) (by decide +kernel)
theorem ini_X10 : Cond.initialized RX10 ∈ lw_tbl := List.mem_of_getElem? (i := 47) (by decide +kernel)
theorem ini_J6 : Cond.initialized RJ6 ∈ lw_tbl := List.mem_of_getElem? (i := 48) (by decide +kernel)
theorem cl_L_7 : Cond.classLink RL 7 RX9 ∈ lw_tbl := List.mem_of_getElem? (i := 49) (by decide +kernel)
theorem in_X9 : Cond.instantiable RX9 6 ∈ lw_tbl := List.mem_of_getElem? (i := 50) (by decide +kernel)
theorem ml_L_9 : Cond.methodLink RL 9 yX9_init ∈ lw_tbl := List.mem_of_getElem? (i := 51) (by decide +kernel)
theorem im_X9_init : Cond.instanceMethod yX9_init ∈ lw_tbl := List.mem_of_getElem? (i := 52) (by decide +kernel)
theorem cd_X9_init : Cond.code yX9_init cX9_init 2 none ∈ lw_tbl := List.mem_of_getElem? (i := 53) (by decide +kernel)
theorem ml_X9_3 : Cond.methodLink RX9 3 Lib.objectInit ∈ lw_tbl := List.mem_of_getElem? (i := 54) (by decide +kernel)
theorem im_Obj : Cond.instanceMethod Lib.objectInit ∈ lw_tbl := List.mem_of_getElem? (i := 55) (by decide +kernel)
theorem cd_Obj : Cond.code Lib.objectInit ⟨#[0xb1]⟩ 1 none ∈ lw_tbl := List.mem_of_getElem? (i := 56) (by decide +kernel)
theorem cl_X9_9 : Cond.classLink RX9 9 RX8 ∈ lw_tbl := List.mem_of_getElem? (i := 57) (by decide +kernel)
theorem ao_X8 : Cond.arrayOver (.object RX8) ∈ lw_tbl := List.mem_of_getElem? (i := 58) (by decide +kernel)
theorem cl_X9_15 : Cond.classLink RX9 15 RX7 ∈ lw_tbl := List.mem_of_getElem? (i := 59) (by decide +kernel)
theorem in_X7 : Cond.instantiable RX7 2 ∈ lw_tbl := List.mem_of_getElem? (i := 60) (by decide +kernel)
theorem ml_X9_17 : Cond.methodLink RX9 17 yX7_init ∈ lw_tbl := List.mem_of_getElem? (i := 61) (by decide +kernel)
theorem im_X7_init : Cond.instanceMethod yX7_init ∈ lw_tbl := List.mem_of_getElem? (i := 62) (by decide +kernel)
theorem cd_X7_init : Cond.code yX7_init cX7_init 2 none ∈ lw_tbl := List.mem_of_getElem? (i := 63) (by decide +kernel)
theorem ml_X7_3 : Cond.methodLink RX7 3 Lib.objectInit ∈ lw_tbl := List.mem_of_getElem? (i := 64) (by decide +kernel)
theorem cl_X7_9 : Cond.classLink RX7 9 RX6 ∈ lw_tbl := List.mem_of_getElem? (i := 65) (by decide +kernel)
theorem ao_X6 : Cond.arrayOver (.object RX6) ∈ lw_tbl := List.mem_of_getElem? (i := 66) (by decide +kernel)
theorem in_X6 : Cond.instantiable RX6 5 ∈ lw_tbl := List.mem_of_getElem? (i := 67) (by decide +kernel)
theorem mn_X7_17 : Cond.methodLinkNest RX7 17 yX6_init RX9 ∈ lw_tbl := List.mem_of_getElem? (i := 68) (by decide +kernel)
theorem im_X6_init : Cond.instanceMethod yX6_init ∈ lw_tbl := List.mem_of_getElem? (i := 69) (by decide +kernel)
theorem cd_X6_init : Cond.code yX6_init cX6_init 1 none ∈ lw_tbl := List.mem_of_getElem? (i := 70) (by decide +kernel)
theorem ml_X6_3 : Cond.methodLink RX6 3 Lib.objectInit ∈ lw_tbl := List.mem_of_getElem? (i := 71) (by decide +kernel)
theorem fl_X6_9 : Cond.fieldLink RX6 9 "CleaningBench$Row" "numbers" "[J" ∈ lw_tbl := List.mem_of_getElem? (i := 72) (by decide +kernel)
theorem fl_X9_85 : Cond.fieldLink RX9 85 "CleaningBench$Row" "numbers" "[J" ∈ lw_tbl := List.mem_of_getElem? (i := 73) (by decide +kernel)
theorem fl_X3_104 : Cond.fieldLink RX3 104 "CleaningBench$Row" "numbers" "[J" ∈ lw_tbl := List.mem_of_getElem? (i := 74) (by decide +kernel)
theorem fl_X2_87 : Cond.fieldLink RX2 87 "CleaningBench$Row" "numbers" "[J" ∈ lw_tbl := List.mem_of_getElem? (i := 75) (by decide +kernel)
theorem fl_X7_44 : Cond.fieldLink RX7 44 "CleaningBench$Row" "numbers" "[J" ∈ lw_tbl := List.mem_of_getElem? (i := 76) (by decide +kernel)
theorem fl_X5_114 : Cond.fieldLink RX5 114 "CleaningBench$Row" "numbers" "[J" ∈ lw_tbl := List.mem_of_getElem? (i := 77) (by decide +kernel)
theorem fl_X6_15 : Cond.fieldLink RX6 15 "CleaningBench$Row" "there" "[Z" ∈ lw_tbl := List.mem_of_getElem? (i := 78) (by decide +kernel)
theorem fl_X9_102 : Cond.fieldLink RX9 102 "CleaningBench$Row" "there" "[Z" ∈ lw_tbl := List.mem_of_getElem? (i := 79) (by decide +kernel)
theorem fl_X2_80 : Cond.fieldLink RX2 80 "CleaningBench$Row" "there" "[Z" ∈ lw_tbl := List.mem_of_getElem? (i := 80) (by decide +kernel)
theorem fl_X7_40 : Cond.fieldLink RX7 40 "CleaningBench$Row" "there" "[Z" ∈ lw_tbl := List.mem_of_getElem? (i := 81) (by decide +kernel)
theorem fl_X5_111 : Cond.fieldLink RX5 111 "CleaningBench$Row" "there" "[Z" ∈ lw_tbl := List.mem_of_getElem? (i := 82) (by decide +kernel)
theorem fl_X7_22 : Cond.fieldLink RX7 22 "CleaningBench$Row" "table" "I" ∈ lw_tbl := List.mem_of_getElem? (i := 83) (by decide +kernel)
theorem fl_X9_91 : Cond.fieldLink RX9 91 "CleaningBench$Row" "table" "I" ∈ lw_tbl := List.mem_of_getElem? (i := 84) (by decide +kernel)
theorem fl_X2_69 : Cond.fieldLink RX2 69 "CleaningBench$Row" "table" "I" ∈ lw_tbl := List.mem_of_getElem? (i := 85) (by decide +kernel)
theorem fl_X5_104 : Cond.fieldLink RX5 104 "CleaningBench$Row" "table" "I" ∈ lw_tbl := List.mem_of_getElem? (i := 86) (by decide +kernel)
theorem fl_X7_25 : Cond.fieldLink RX7 25 "CleaningBench$Row" "trust" "I" ∈ lw_tbl := List.mem_of_getElem? (i := 87) (by decide +kernel)
theorem fl_X9_119 : Cond.fieldLink RX9 119 "CleaningBench$Row" "trust" "I" ∈ lw_tbl := List.mem_of_getElem? (i := 88) (by decide +kernel)
theorem fl_X7_28 : Cond.fieldLink RX7 28 "CleaningBench$Row" "kept" "Z" ∈ lw_tbl := List.mem_of_getElem? (i := 89) (by decide +kernel)
theorem fl_X9_122 : Cond.fieldLink RX9 122 "CleaningBench$Row" "kept" "Z" ∈ lw_tbl := List.mem_of_getElem? (i := 90) (by decide +kernel)
theorem ac_long : Cond.arrayClass .long ∈ lw_tbl := List.mem_of_getElem? (i := 102) (by decide +kernel)
theorem ac_boolean : Cond.arrayClass .boolean ∈ lw_tbl := List.mem_of_getElem? (i := 103) (by decide +kernel)
theorem fl_X7_11 : Cond.fieldLink RX7 11 "CleaningBench$Rows" "list" "[LCleaningBench$Row;" ∈ lw_tbl := List.mem_of_getElem? (i := 104) (by decide +kernel)
theorem fl_X9_81 : Cond.fieldLink RX9 81 "CleaningBench$Rows" "list" "[LCleaningBench$Row;" ∈ lw_tbl := List.mem_of_getElem? (i := 105) (by decide +kernel)
theorem fl_X3_101 : Cond.fieldLink RX3 101 "CleaningBench$Rows" "list" "[LCleaningBench$Row;" ∈ lw_tbl := List.mem_of_getElem? (i := 106) (by decide +kernel)
theorem fl_X2_66 : Cond.fieldLink RX2 66 "CleaningBench$Rows" "list" "[LCleaningBench$Row;" ∈ lw_tbl := List.mem_of_getElem? (i := 107) (by decide +kernel)
theorem fl_X5_100 : Cond.fieldLink RX5 100 "CleaningBench$Rows" "list" "[LCleaningBench$Row;" ∈ lw_tbl := List.mem_of_getElem? (i := 108) (by decide +kernel)
theorem fl_X7_18 : Cond.fieldLink RX7 18 "CleaningBench$Rows" "many" "I" ∈ lw_tbl := List.mem_of_getElem? (i := 109) (by decide +kernel)
theorem fl_X3_49 : Cond.fieldLink RX3 49 "CleaningBench$Rows" "many" "I" ∈ lw_tbl := List.mem_of_getElem? (i := 110) (by decide +kernel)
theorem fl_X9_71 : Cond.fieldLink RX9 71 "CleaningBench$Rows" "many" "I" ∈ lw_tbl := List.mem_of_getElem? (i := 111) (by decide +kernel)
theorem fl_X2_59 : Cond.fieldLink RX2 59 "CleaningBench$Rows" "many" "I" ∈ lw_tbl := List.mem_of_getElem? (i := 112) (by decide +kernel)
theorem fl_X5_77 : Cond.fieldLink RX5 77 "CleaningBench$Rows" "many" "I" ∈ lw_tbl := List.mem_of_getElem? (i := 113) (by decide +kernel)
theorem cl_X9_22 : Cond.classLink RX9 22 RX2 ∈ lw_tbl := List.mem_of_getElem? (i := 119) (by decide +kernel)
theorem in_X2 : Cond.instantiable RX2 5 ∈ lw_tbl := List.mem_of_getElem? (i := 120) (by decide +kernel)
theorem ml_X9_24 : Cond.methodLink RX9 24 yX2_init ∈ lw_tbl := List.mem_of_getElem? (i := 121) (by decide +kernel)
theorem im_X2_init : Cond.instanceMethod yX2_init ∈ lw_tbl := List.mem_of_getElem? (i := 122) (by decide +kernel)
theorem cd_X2_init : Cond.code yX2_init cX2_init 3 none ∈ lw_tbl := List.mem_of_getElem? (i := 123) (by decide +kernel)
theorem ml_X2_3 : Cond.methodLink RX2 3 Lib.objectInit ∈ lw_tbl := List.mem_of_getElem? (i := 124) (by decide +kernel)
theorem cl_X2_9 : Cond.classLink RX2 9 RX1 ∈ lw_tbl := List.mem_of_getElem? (i := 125) (by decide +kernel)
theorem ao_X1 : Cond.arrayOver (.object RX1) ∈ lw_tbl := List.mem_of_getElem? (i := 126) (by decide +kernel)
theorem in_X1 : Cond.instantiable RX1 8 ∈ lw_tbl := List.mem_of_getElem? (i := 127) (by decide +kernel)
theorem mn_X2_25 : Cond.methodLinkNest RX2 25 yX1_init RX9 ∈ lw_tbl := List.mem_of_getElem? (i := 128) (by decide +kernel)
theorem im_X1_init : Cond.instanceMethod yX1_init ∈ lw_tbl := List.mem_of_getElem? (i := 129) (by decide +kernel)
theorem cd_X1_init : Cond.code yX1_init cX1_init 1 none ∈ lw_tbl := List.mem_of_getElem? (i := 130) (by decide +kernel)
theorem ml_X1_1 : Cond.methodLink RX1 1 Lib.objectInit ∈ lw_tbl := List.mem_of_getElem? (i := 131) (by decide +kernel)
theorem fl_X2_30 : Cond.fieldLink RX2 30 "CleaningBench$Law" "kind" "I" ∈ lw_tbl := List.mem_of_getElem? (i := 132) (by decide +kernel)
theorem fl_X3_71 : Cond.fieldLink RX3 71 "CleaningBench$Law" "kind" "I" ∈ lw_tbl := List.mem_of_getElem? (i := 133) (by decide +kernel)
theorem fl_X9_165 : Cond.fieldLink RX9 165 "CleaningBench$Law" "kind" "I" ∈ lw_tbl := List.mem_of_getElem? (i := 134) (by decide +kernel)
theorem fl_X2_33 : Cond.fieldLink RX2 33 "CleaningBench$Law" "table" "I" ∈ lw_tbl := List.mem_of_getElem? (i := 135) (by decide +kernel)
theorem fl_X3_91 : Cond.fieldLink RX3 91 "CleaningBench$Law" "table" "I" ∈ lw_tbl := List.mem_of_getElem? (i := 136) (by decide +kernel)
theorem fl_X9_214 : Cond.fieldLink RX9 214 "CleaningBench$Law" "table" "I" ∈ lw_tbl := List.mem_of_getElem? (i := 137) (by decide +kernel)
theorem fl_X3_94 : Cond.fieldLink RX3 94 "CleaningBench$Law" "first" "I" ∈ lw_tbl := List.mem_of_getElem? (i := 138) (by decide +kernel)
theorem fl_X2_84 : Cond.fieldLink RX2 84 "CleaningBench$Law" "first" "I" ∈ lw_tbl := List.mem_of_getElem? (i := 139) (by decide +kernel)
theorem fl_X9_136 : Cond.fieldLink RX9 136 "CleaningBench$Law" "first" "I" ∈ lw_tbl := List.mem_of_getElem? (i := 140) (by decide +kernel)
theorem fl_X3_113 : Cond.fieldLink RX3 113 "CleaningBench$Law" "second" "I" ∈ lw_tbl := List.mem_of_getElem? (i := 141) (by decide +kernel)
theorem fl_X2_105 : Cond.fieldLink RX2 105 "CleaningBench$Law" "second" "I" ∈ lw_tbl := List.mem_of_getElem? (i := 142) (by decide +kernel)
theorem fl_X9_141 : Cond.fieldLink RX9 141 "CleaningBench$Law" "second" "I" ∈ lw_tbl := List.mem_of_getElem? (i := 143) (by decide +kernel)
theorem fl_X3_110 : Cond.fieldLink RX3 110 "CleaningBench$Law" "other" "I" ∈ lw_tbl := List.mem_of_getElem? (i := 144) (by decide +kernel)
theorem fl_X2_102 : Cond.fieldLink RX2 102 "CleaningBench$Law" "other" "I" ∈ lw_tbl := List.mem_of_getElem? (i := 145) (by decide +kernel)
theorem fl_X9_151 : Cond.fieldLink RX9 151 "CleaningBench$Law" "other" "I" ∈ lw_tbl := List.mem_of_getElem? (i := 146) (by decide +kernel)
theorem fl_X2_91 : Cond.fieldLink RX2 91 "CleaningBench$Law" "c" "J" ∈ lw_tbl := List.mem_of_getElem? (i := 147) (by decide +kernel)
theorem fl_X9_144 : Cond.fieldLink RX9 144 "CleaningBench$Law" "c" "J" ∈ lw_tbl := List.mem_of_getElem? (i := 148) (by decide +kernel)
theorem fl_X2_95 : Cond.fieldLink RX2 95 "CleaningBench$Law" "d" "J" ∈ lw_tbl := List.mem_of_getElem? (i := 149) (by decide +kernel)
theorem fl_X9_148 : Cond.fieldLink RX9 148 "CleaningBench$Law" "d" "J" ∈ lw_tbl := List.mem_of_getElem? (i := 150) (by decide +kernel)
theorem fl_X2_36 : Cond.fieldLink RX2 36 "CleaningBench$Law" "inForce" "Z" ∈ lw_tbl := List.mem_of_getElem? (i := 151) (by decide +kernel)
theorem fl_X3_65 : Cond.fieldLink RX3 65 "CleaningBench$Law" "inForce" "Z" ∈ lw_tbl := List.mem_of_getElem? (i := 152) (by decide +kernel)
theorem fl_X9_160 : Cond.fieldLink RX9 160 "CleaningBench$Law" "inForce" "Z" ∈ lw_tbl := List.mem_of_getElem? (i := 153) (by decide +kernel)
theorem ac_int : Cond.arrayClass .int ∈ lw_tbl := List.mem_of_getElem? (i := 171) (by decide +kernel)
theorem fl_X2_21 : Cond.fieldLink RX2 21 "CleaningBench$Laws" "rows" "LCleaningBench$Rows;" ∈ lw_tbl := List.mem_of_getElem? (i := 172) (by decide +kernel)
theorem fl_X2_11 : Cond.fieldLink RX2 11 "CleaningBench$Laws" "list" "[LCleaningBench$Law;" ∈ lw_tbl := List.mem_of_getElem? (i := 173) (by decide +kernel)
theorem fl_X3_61 : Cond.fieldLink RX3 61 "CleaningBench$Laws" "list" "[LCleaningBench$Law;" ∈ lw_tbl := List.mem_of_getElem? (i := 174) (by decide +kernel)
theorem fl_X9_157 : Cond.fieldLink RX9 157 "CleaningBench$Laws" "list" "[LCleaningBench$Law;" ∈ lw_tbl := List.mem_of_getElem? (i := 175) (by decide +kernel)
theorem fl_X2_26 : Cond.fieldLink RX2 26 "CleaningBench$Laws" "many" "I" ∈ lw_tbl := List.mem_of_getElem? (i := 176) (by decide +kernel)
theorem fl_X3_58 : Cond.fieldLink RX3 58 "CleaningBench$Laws" "many" "I" ∈ lw_tbl := List.mem_of_getElem? (i := 177) (by decide +kernel)
theorem fl_X9_126 : Cond.fieldLink RX9 126 "CleaningBench$Laws" "many" "I" ∈ lw_tbl := List.mem_of_getElem? (i := 178) (by decide +kernel)
theorem fl_X2_17 : Cond.fieldLink RX2 17 "CleaningBench$Laws" "found" "[I" ∈ lw_tbl := List.mem_of_getElem? (i := 179) (by decide +kernel)
theorem fl_X3_81 : Cond.fieldLink RX3 81 "CleaningBench$Laws" "found" "[I" ∈ lw_tbl := List.mem_of_getElem? (i := 180) (by decide +kernel)
theorem fl_X9_178 : Cond.fieldLink RX9 178 "CleaningBench$Laws" "found" "[I" ∈ lw_tbl := List.mem_of_getElem? (i := 181) (by decide +kernel)
theorem fl_X2_44 : Cond.fieldLink RX2 44 "CleaningBench$Laws" "manyFound" "I" ∈ lw_tbl := List.mem_of_getElem? (i := 182) (by decide +kernel)
theorem fl_X3_78 : Cond.fieldLink RX3 78 "CleaningBench$Laws" "manyFound" "I" ∈ lw_tbl := List.mem_of_getElem? (i := 183) (by decide +kernel)
theorem fl_X9_175 : Cond.fieldLink RX9 175 "CleaningBench$Laws" "manyFound" "I" ∈ lw_tbl := List.mem_of_getElem? (i := 184) (by decide +kernel)
theorem cl_X9_31 : Cond.classLink RX9 31 RX3 ∈ lw_tbl := List.mem_of_getElem? (i := 196) (by decide +kernel)
theorem in_X3 : Cond.instantiable RX3 7 ∈ lw_tbl := List.mem_of_getElem? (i := 197) (by decide +kernel)
theorem ml_X9_33 : Cond.methodLink RX9 33 yX3_init ∈ lw_tbl := List.mem_of_getElem? (i := 198) (by decide +kernel)
theorem im_X3_init : Cond.instanceMethod yX3_init ∈ lw_tbl := List.mem_of_getElem? (i := 199) (by decide +kernel)
theorem cd_X3_init : Cond.code yX3_init cX3_init 3 none ∈ lw_tbl := List.mem_of_getElem? (i := 200) (by decide +kernel)
theorem ml_X3_3 : Cond.methodLink RX3 3 Lib.objectInit ∈ lw_tbl := List.mem_of_getElem? (i := 201) (by decide +kernel)
theorem fl_X3_22 : Cond.fieldLink RX3 22 "CleaningBench$Mendings" "rows" "LCleaningBench$Rows;" ∈ lw_tbl := List.mem_of_getElem? (i := 202) (by decide +kernel)
theorem fl_X3_26 : Cond.fieldLink RX3 26 "CleaningBench$Mendings" "laws" "LCleaningBench$Laws;" ∈ lw_tbl := List.mem_of_getElem? (i := 203) (by decide +kernel)
theorem fl_X3_9 : Cond.fieldLink RX3 9 "CleaningBench$Mendings" "least" "[I" ∈ lw_tbl := List.mem_of_getElem? (i := 204) (by decide +kernel)
theorem fl_X9_186 : Cond.fieldLink RX9 186 "CleaningBench$Mendings" "least" "[I" ∈ lw_tbl := List.mem_of_getElem? (i := 205) (by decide +kernel)
theorem fl_X3_42 : Cond.fieldLink RX3 42 "CleaningBench$Mendings" "many" "I" ∈ lw_tbl := List.mem_of_getElem? (i := 206) (by decide +kernel)
theorem fl_X9_185 : Cond.fieldLink RX9 185 "CleaningBench$Mendings" "many" "I" ∈ lw_tbl := List.mem_of_getElem? (i := 207) (by decide +kernel)
theorem fl_X3_36 : Cond.fieldLink RX3 36 "CleaningBench$Mendings" "kept" "I" ∈ lw_tbl := List.mem_of_getElem? (i := 208) (by decide +kernel)
theorem fl_X9_257 : Cond.fieldLink RX9 257 "CleaningBench$Mendings" "kept" "I" ∈ lw_tbl := List.mem_of_getElem? (i := 209) (by decide +kernel)
theorem fl_X3_15 : Cond.fieldLink RX3 15 "CleaningBench$Mendings" "broken" "[Z" ∈ lw_tbl := List.mem_of_getElem? (i := 210) (by decide +kernel)
theorem fl_X3_19 : Cond.fieldLink RX3 19 "CleaningBench$Mendings" "covers" "[Z" ∈ lw_tbl := List.mem_of_getElem? (i := 211) (by decide +kernel)
theorem cl_X9_40 : Cond.classLink RX9 40 RX5 ∈ lw_tbl := List.mem_of_getElem? (i := 227) (by decide +kernel)
theorem in_X5 : Cond.instantiable RX5 8 ∈ lw_tbl := List.mem_of_getElem? (i := 228) (by decide +kernel)
theorem ml_X9_42 : Cond.methodLink RX9 42 yX5_init ∈ lw_tbl := List.mem_of_getElem? (i := 229) (by decide +kernel)
theorem im_X5_init : Cond.instanceMethod yX5_init ∈ lw_tbl := List.mem_of_getElem? (i := 230) (by decide +kernel)
theorem cd_X5_init : Cond.code yX5_init cX5_init 3 none ∈ lw_tbl := List.mem_of_getElem? (i := 231) (by decide +kernel)
theorem ml_X5_3 : Cond.methodLink RX5 3 Lib.objectInit ∈ lw_tbl := List.mem_of_getElem? (i := 232) (by decide +kernel)
theorem cl_X5_9 : Cond.classLink RX5 9 RX4 ∈ lw_tbl := List.mem_of_getElem? (i := 233) (by decide +kernel)
theorem ao_X4 : Cond.arrayOver (.object RX4) ∈ lw_tbl := List.mem_of_getElem? (i := 234) (by decide +kernel)
theorem cl_X5_17 : Cond.classLink RX5 17 RX0 ∈ lw_tbl := List.mem_of_getElem? (i := 235) (by decide +kernel)
theorem ao_X0 : Cond.arrayOver (.object RX0) ∈ lw_tbl := List.mem_of_getElem? (i := 236) (by decide +kernel)
theorem in_X4 : Cond.instantiable RX4 3 ∈ lw_tbl := List.mem_of_getElem? (i := 237) (by decide +kernel)
theorem mn_X5_38 : Cond.methodLinkNest RX5 38 yX4_init RX9 ∈ lw_tbl := List.mem_of_getElem? (i := 238) (by decide +kernel)
theorem im_X4_init : Cond.instanceMethod yX4_init ∈ lw_tbl := List.mem_of_getElem? (i := 239) (by decide +kernel)
theorem cd_X4_init : Cond.code yX4_init cX4_init 1 none ∈ lw_tbl := List.mem_of_getElem? (i := 240) (by decide +kernel)
theorem ml_X4_3 : Cond.methodLink RX4 3 Lib.objectInit ∈ lw_tbl := List.mem_of_getElem? (i := 241) (by decide +kernel)
theorem fl_X4_9 : Cond.fieldLink RX4 9 "CleaningBench$Part" "told" "[Z" ∈ lw_tbl := List.mem_of_getElem? (i := 242) (by decide +kernel)
theorem fl_X5_50 : Cond.fieldLink RX5 50 "CleaningBench$Part" "told" "[Z" ∈ lw_tbl := List.mem_of_getElem? (i := 243) (by decide +kernel)
theorem fl_X9_235 : Cond.fieldLink RX9 235 "CleaningBench$Part" "told" "[Z" ∈ lw_tbl := List.mem_of_getElem? (i := 244) (by decide +kernel)
theorem fl_X4_15 : Cond.fieldLink RX4 15 "CleaningBench$Part" "numbers" "[J" ∈ lw_tbl := List.mem_of_getElem? (i := 245) (by decide +kernel)
theorem fl_X5_118 : Cond.fieldLink RX5 118 "CleaningBench$Part" "numbers" "[J" ∈ lw_tbl := List.mem_of_getElem? (i := 246) (by decide +kernel)
theorem fl_X9_240 : Cond.fieldLink RX9 240 "CleaningBench$Part" "numbers" "[J" ∈ lw_tbl := List.mem_of_getElem? (i := 247) (by decide +kernel)
theorem fl_X5_47 : Cond.fieldLink RX5 47 "CleaningBench$Part" "table" "I" ∈ lw_tbl := List.mem_of_getElem? (i := 248) (by decide +kernel)
theorem fl_X9_271 : Cond.fieldLink RX9 271 "CleaningBench$Part" "table" "I" ∈ lw_tbl := List.mem_of_getElem? (i := 249) (by decide +kernel)
theorem in_X0 : Cond.instantiable RX0 4 ∈ lw_tbl := List.mem_of_getElem? (i := 257) (by decide +kernel)
theorem mn_X5_39 : Cond.methodLinkNest RX5 39 yX0_init RX9 ∈ lw_tbl := List.mem_of_getElem? (i := 258) (by decide +kernel)
theorem im_X0_init : Cond.instanceMethod yX0_init ∈ lw_tbl := List.mem_of_getElem? (i := 259) (by decide +kernel)
theorem cd_X0_init : Cond.code yX0_init cX0_init 1 none ∈ lw_tbl := List.mem_of_getElem? (i := 260) (by decide +kernel)
theorem ml_X0_1 : Cond.methodLink RX0 1 Lib.objectInit ∈ lw_tbl := List.mem_of_getElem? (i := 261) (by decide +kernel)
theorem fl_X5_53 : Cond.fieldLink RX5 53 "CleaningBench$Join" "p" "I" ∈ lw_tbl := List.mem_of_getElem? (i := 262) (by decide +kernel)
theorem fl_X5_56 : Cond.fieldLink RX5 56 "CleaningBench$Join" "c" "I" ∈ lw_tbl := List.mem_of_getElem? (i := 263) (by decide +kernel)
theorem fl_X5_59 : Cond.fieldLink RX5 59 "CleaningBench$Join" "q" "I" ∈ lw_tbl := List.mem_of_getElem? (i := 264) (by decide +kernel)
theorem fl_X5_62 : Cond.fieldLink RX5 62 "CleaningBench$Join" "d" "I" ∈ lw_tbl := List.mem_of_getElem? (i := 265) (by decide +kernel)
theorem fl_X5_34 : Cond.fieldLink RX5 34 "CleaningBench$Question" "rows" "LCleaningBench$Rows;" ∈ lw_tbl := List.mem_of_getElem? (i := 275) (by decide +kernel)
theorem fl_X5_11 : Cond.fieldLink RX5 11 "CleaningBench$Question" "parts" "[LCleaningBench$Part;" ∈ lw_tbl := List.mem_of_getElem? (i := 276) (by decide +kernel)
theorem fl_X9_231 : Cond.fieldLink RX9 231 "CleaningBench$Question" "parts" "[LCleaningBench$Part;" ∈ lw_tbl := List.mem_of_getElem? (i := 277) (by decide +kernel)
theorem fl_X5_40 : Cond.fieldLink RX5 40 "CleaningBench$Question" "manyParts" "I" ∈ lw_tbl := List.mem_of_getElem? (i := 278) (by decide +kernel)
theorem fl_X9_219 : Cond.fieldLink RX9 219 "CleaningBench$Question" "manyParts" "I" ∈ lw_tbl := List.mem_of_getElem? (i := 279) (by decide +kernel)
theorem fl_X5_19 : Cond.fieldLink RX5 19 "CleaningBench$Question" "joins" "[LCleaningBench$Join;" ∈ lw_tbl := List.mem_of_getElem? (i := 280) (by decide +kernel)
theorem fl_X5_44 : Cond.fieldLink RX5 44 "CleaningBench$Question" "manyJoins" "I" ∈ lw_tbl := List.mem_of_getElem? (i := 281) (by decide +kernel)
theorem fl_X9_244 : Cond.fieldLink RX9 244 "CleaningBench$Question" "manyJoins" "I" ∈ lw_tbl := List.mem_of_getElem? (i := 282) (by decide +kernel)
theorem fl_X5_23 : Cond.fieldLink RX5 23 "CleaningBench$Question" "fitting" "[I" ∈ lw_tbl := List.mem_of_getElem? (i := 283) (by decide +kernel)
theorem fl_X5_27 : Cond.fieldLink RX5 27 "CleaningBench$Question" "tried" "[I" ∈ lw_tbl := List.mem_of_getElem? (i := 284) (by decide +kernel)
theorem fl_X5_30 : Cond.fieldLink RX5 30 "CleaningBench$Question" "standing" "[Z" ∈ lw_tbl := List.mem_of_getElem? (i := 285) (by decide +kernel)
theorem fl_X9_262 : Cond.fieldLink RX9 262 "CleaningBench$Question" "standing" "[Z" ∈ lw_tbl := List.mem_of_getElem? (i := 286) (by decide +kernel)
theorem in_X8 : Cond.instantiable RX8 2 ∈ lw_tbl := List.mem_of_getElem? (i := 304) (by decide +kernel)
theorem mn_X9_47 : Cond.methodLinkNest RX9 47 yX8_init RX9 ∈ lw_tbl := List.mem_of_getElem? (i := 305) (by decide +kernel)
theorem im_X8_init : Cond.instanceMethod yX8_init ∈ lw_tbl := List.mem_of_getElem? (i := 306) (by decide +kernel)
theorem cd_X8_init : Cond.code yX8_init cX8_init 1 none ∈ lw_tbl := List.mem_of_getElem? (i := 307) (by decide +kernel)
theorem ml_X8_3 : Cond.methodLink RX8 3 Lib.objectInit ∈ lw_tbl := List.mem_of_getElem? (i := 308) (by decide +kernel)
theorem fl_X8_9 : Cond.fieldLink RX8 9 "CleaningBench$Table" "lanes" "[I" ∈ lw_tbl := List.mem_of_getElem? (i := 309) (by decide +kernel)
theorem fl_X9_94 : Cond.fieldLink RX9 94 "CleaningBench$Table" "lanes" "[I" ∈ lw_tbl := List.mem_of_getElem? (i := 310) (by decide +kernel)
theorem fl_X8_15 : Cond.fieldLink RX8 15 "CleaningBench$Table" "columns" "I" ∈ lw_tbl := List.mem_of_getElem? (i := 311) (by decide +kernel)
theorem fl_X9_56 : Cond.fieldLink RX9 56 "CleaningBench$Table" "columns" "I" ∈ lw_tbl := List.mem_of_getElem? (i := 312) (by decide +kernel)
theorem fl_X9_11 : Cond.fieldLink RX9 11 "CleaningBench" "tables" "[LCleaningBench$Table;" ∈ lw_tbl := List.mem_of_getElem? (i := 318) (by decide +kernel)
theorem fl_X9_18 : Cond.fieldLink RX9 18 "CleaningBench" "rows" "LCleaningBench$Rows;" ∈ lw_tbl := List.mem_of_getElem? (i := 319) (by decide +kernel)
theorem fl_X9_27 : Cond.fieldLink RX9 27 "CleaningBench" "laws" "LCleaningBench$Laws;" ∈ lw_tbl := List.mem_of_getElem? (i := 320) (by decide +kernel)
theorem fl_X9_36 : Cond.fieldLink RX9 36 "CleaningBench" "mendings" "LCleaningBench$Mendings;" ∈ lw_tbl := List.mem_of_getElem? (i := 321) (by decide +kernel)
theorem fl_X9_43 : Cond.fieldLink RX9 43 "CleaningBench" "question" "LCleaningBench$Question;" ∈ lw_tbl := List.mem_of_getElem? (i := 322) (by decide +kernel)
theorem fl_X9_265 : Cond.fieldLink RX9 265 "CleaningBench" "findings" "I" ∈ lw_tbl := List.mem_of_getElem? (i := 323) (by decide +kernel)
theorem ml_L_13 : Cond.methodLink RL 13 yX9_table ∈ lw_tbl := List.mem_of_getElem? (i := 337) (by decide +kernel)
theorem im_X9_table : Cond.instanceMethod yX9_table ∈ lw_tbl := List.mem_of_getElem? (i := 338) (by decide +kernel)
theorem se_X9_table : Cond.selects RX9 yX9_table yX9_table ∈ lw_tbl := List.mem_of_getElem? (i := 339) (by decide +kernel)
theorem cd_X9_table : Cond.code yX9_table cX9_table 4 (some .int) ∈ lw_tbl := List.mem_of_getElem? (i := 340) (by decide +kernel)
theorem ml_X9_48 : Cond.methodLink RX9 48 yX9_found ∈ lw_tbl := List.mem_of_getElem? (i := 341) (by decide +kernel)
theorem im_X9_found : Cond.instanceMethod yX9_found ∈ lw_tbl := List.mem_of_getElem? (i := 343) (by decide +kernel)
theorem cd_X9_found : Cond.code yX9_found cX9_found 2 (some .int) ∈ lw_tbl := List.mem_of_getElem? (i := 344) (by decide +kernel)
theorem ml_X9_52 : Cond.methodLink RX9 52 yX9_areLanes ∈ lw_tbl := List.mem_of_getElem? (i := 345) (by decide +kernel)
theorem st_X9_areLanes : Cond.static yX9_areLanes ∈ lw_tbl := List.mem_of_getElem? (i := 346) (by decide +kernel)
theorem cd_X9_areLanes : Cond.code yX9_areLanes cX9_areLanes 4 (some .boolean) ∈ lw_tbl := List.mem_of_getElem? (i := 347) (by decide +kernel)
theorem ml_X9_60 : Cond.methodLink RX9 60 yX8_make ∈ lw_tbl := List.mem_of_getElem? (i := 348) (by decide +kernel)
theorem im_X8_make : Cond.instanceMethod yX8_make ∈ lw_tbl := List.mem_of_getElem? (i := 349) (by decide +kernel)
theorem se_X8_make : Cond.selects RX8 yX8_make yX8_make ∈ lw_tbl := List.mem_of_getElem? (i := 350) (by decide +kernel)
theorem cd_X8_make : Cond.code yX8_make cX8_make 5 none ∈ lw_tbl := List.mem_of_getElem? (i := 351) (by decide +kernel)
theorem ml_L_18 : Cond.methodLink RL 18 yX9_row ∈ lw_tbl := List.mem_of_getElem? (i := 352) (by decide +kernel)
theorem im_X9_row : Cond.instanceMethod yX9_row ∈ lw_tbl := List.mem_of_getElem? (i := 353) (by decide +kernel)
theorem se_X9_row : Cond.selects RX9 yX9_row yX9_row ∈ lw_tbl := List.mem_of_getElem? (i := 354) (by decide +kernel)
theorem cd_X9_row : Cond.code yX9_row cX9_row 4 (some .int) ∈ lw_tbl := List.mem_of_getElem? (i := 355) (by decide +kernel)
theorem ml_X9_64 : Cond.methodLink RX9 64 yX9_faultOfTable ∈ lw_tbl := List.mem_of_getElem? (i := 356) (by decide +kernel)
theorem im_X9_faultOfTable : Cond.instanceMethod yX9_faultOfTable ∈ lw_tbl := List.mem_of_getElem? (i := 358) (by decide +kernel)
theorem cd_X9_faultOfTable : Cond.code yX9_faultOfTable cX9_faultOfTable 2 (some .int) ∈ lw_tbl := List.mem_of_getElem? (i := 359) (by decide +kernel)
theorem ml_X9_67 : Cond.methodLink RX9 67 yX9_isTrust ∈ lw_tbl := List.mem_of_getElem? (i := 360) (by decide +kernel)
theorem st_X9_isTrust : Cond.static yX9_isTrust ∈ lw_tbl := List.mem_of_getElem? (i := 361) (by decide +kernel)
theorem cd_X9_isTrust : Cond.code yX9_isTrust cX9_isTrust 1 (some .boolean) ∈ lw_tbl := List.mem_of_getElem? (i := 362) (by decide +kernel)
theorem ml_X9_74 : Cond.methodLink RX9 74 yX7_add ∈ lw_tbl := List.mem_of_getElem? (i := 363) (by decide +kernel)
theorem im_X7_add : Cond.instanceMethod yX7_add ∈ lw_tbl := List.mem_of_getElem? (i := 364) (by decide +kernel)
theorem se_X7_add : Cond.selects RX7 yX7_add yX7_add ∈ lw_tbl := List.mem_of_getElem? (i := 365) (by decide +kernel)
theorem cd_X7_add : Cond.code yX7_add cX7_add 3 (some .int) ∈ lw_tbl := List.mem_of_getElem? (i := 366) (by decide +kernel)
theorem ml_L_25 : Cond.methodLink RL 25 yX9_put ∈ lw_tbl := List.mem_of_getElem? (i := 367) (by decide +kernel)
theorem im_X9_put : Cond.instanceMethod yX9_put ∈ lw_tbl := List.mem_of_getElem? (i := 368) (by decide +kernel)
theorem se_X9_put : Cond.selects RX9 yX9_put yX9_put ∈ lw_tbl := List.mem_of_getElem? (i := 369) (by decide +kernel)
theorem cd_X9_put : Cond.code yX9_put cX9_put 7 (some .int) ∈ lw_tbl := List.mem_of_getElem? (i := 370) (by decide +kernel)
theorem ml_X9_78 : Cond.methodLink RX9 78 yX9_faultOfCell ∈ lw_tbl := List.mem_of_getElem? (i := 371) (by decide +kernel)
theorem im_X9_faultOfCell : Cond.instanceMethod yX9_faultOfCell ∈ lw_tbl := List.mem_of_getElem? (i := 373) (by decide +kernel)
theorem cd_X9_faultOfCell : Cond.code yX9_faultOfCell cX9_faultOfCell 3 (some .int) ∈ lw_tbl := List.mem_of_getElem? (i := 374) (by decide +kernel)
theorem ml_X9_116 : Cond.methodLink RX9 116 yX9_isRow ∈ lw_tbl := List.mem_of_getElem? (i := 375) (by decide +kernel)
theorem im_X9_isRow : Cond.instanceMethod yX9_isRow ∈ lw_tbl := List.mem_of_getElem? (i := 377) (by decide +kernel)
theorem cd_X9_isRow : Cond.code yX9_isRow cX9_isRow 2 (some .boolean) ∈ lw_tbl := List.mem_of_getElem? (i := 378) (by decide +kernel)
theorem ml_X9_110 : Cond.methodLink RX9 110 yX9_faultOfColumn ∈ lw_tbl := List.mem_of_getElem? (i := 379) (by decide +kernel)
theorem im_X9_faultOfColumn : Cond.instanceMethod yX9_faultOfColumn ∈ lw_tbl := List.mem_of_getElem? (i := 381) (by decide +kernel)
theorem cd_X9_faultOfColumn : Cond.code yX9_faultOfColumn cX9_faultOfColumn 3 (some .int) ∈ lw_tbl := List.mem_of_getElem? (i := 382) (by decide +kernel)
theorem ml_X9_98 : Cond.methodLink RX9 98 yX9_asLane ∈ lw_tbl := List.mem_of_getElem? (i := 383) (by decide +kernel)
theorem st_X9_asLane : Cond.static yX9_asLane ∈ lw_tbl := List.mem_of_getElem? (i := 384) (by decide +kernel)
theorem cd_X9_asLane : Cond.code yX9_asLane cX9_asLane 3 (some .long) ∈ lw_tbl := List.mem_of_getElem? (i := 385) (by decide +kernel)
theorem ml_L_30 : Cond.methodLink RL 30 yX9_miss ∈ lw_tbl := List.mem_of_getElem? (i := 386) (by decide +kernel)
theorem im_X9_miss : Cond.instanceMethod yX9_miss ∈ lw_tbl := List.mem_of_getElem? (i := 387) (by decide +kernel)
theorem se_X9_miss : Cond.selects RX9 yX9_miss yX9_miss ∈ lw_tbl := List.mem_of_getElem? (i := 388) (by decide +kernel)
theorem cd_X9_miss : Cond.code yX9_miss cX9_miss 6 (some .int) ∈ lw_tbl := List.mem_of_getElem? (i := 389) (by decide +kernel)
theorem ml_X9_106 : Cond.methodLink RX9 106 yX9_oneIf ∈ lw_tbl := List.mem_of_getElem? (i := 390) (by decide +kernel)
theorem st_X9_oneIf : Cond.static yX9_oneIf ∈ lw_tbl := List.mem_of_getElem? (i := 391) (by decide +kernel)
theorem cd_X9_oneIf : Cond.code yX9_oneIf cX9_oneIf 1 (some .int) ∈ lw_tbl := List.mem_of_getElem? (i := 392) (by decide +kernel)
theorem ml_L_34 : Cond.methodLink RL 34 yX9_has ∈ lw_tbl := List.mem_of_getElem? (i := 393) (by decide +kernel)
theorem im_X9_has : Cond.instanceMethod yX9_has ∈ lw_tbl := List.mem_of_getElem? (i := 394) (by decide +kernel)
theorem se_X9_has : Cond.selects RX9 yX9_has yX9_has ∈ lw_tbl := List.mem_of_getElem? (i := 395) (by decide +kernel)
theorem cd_X9_has : Cond.code yX9_has cX9_has 4 (some .int) ∈ lw_tbl := List.mem_of_getElem? (i := 396) (by decide +kernel)
theorem ml_L_38 : Cond.methodLink RL 38 yX9_cell ∈ lw_tbl := List.mem_of_getElem? (i := 397) (by decide +kernel)
theorem im_X9_cell : Cond.instanceMethod yX9_cell ∈ lw_tbl := List.mem_of_getElem? (i := 398) (by decide +kernel)
theorem se_X9_cell : Cond.selects RX9 yX9_cell yX9_cell ∈ lw_tbl := List.mem_of_getElem? (i := 399) (by decide +kernel)
theorem cd_X9_cell : Cond.code yX9_cell cX9_cell 4 (some .long) ∈ lw_tbl := List.mem_of_getElem? (i := 400) (by decide +kernel)
theorem ml_L_43 : Cond.methodLink RL 43 yX9_column ∈ lw_tbl := List.mem_of_getElem? (i := 401) (by decide +kernel)
theorem im_X9_column : Cond.instanceMethod yX9_column ∈ lw_tbl := List.mem_of_getElem? (i := 402) (by decide +kernel)
theorem se_X9_column : Cond.selects RX9 yX9_column yX9_column ∈ lw_tbl := List.mem_of_getElem? (i := 403) (by decide +kernel)
theorem cd_X9_column : Cond.code yX9_column cX9_column 5 (some .int) ∈ lw_tbl := List.mem_of_getElem? (i := 404) (by decide +kernel)
theorem ml_X9_113 : Cond.methodLink RX9 113 yX7_manyOf ∈ lw_tbl := List.mem_of_getElem? (i := 405) (by decide +kernel)
theorem im_X7_manyOf : Cond.instanceMethod yX7_manyOf ∈ lw_tbl := List.mem_of_getElem? (i := 406) (by decide +kernel)
theorem se_X7_manyOf : Cond.selects RX7 yX7_manyOf yX7_manyOf ∈ lw_tbl := List.mem_of_getElem? (i := 407) (by decide +kernel)
theorem cd_X7_manyOf : Cond.code yX7_manyOf cX7_manyOf 4 (some .int) ∈ lw_tbl := List.mem_of_getElem? (i := 408) (by decide +kernel)
theorem mn_X7_36 : Cond.methodLinkNest RX7 36 yX9_oneIf RX9 ∈ lw_tbl := List.mem_of_getElem? (i := 409) (by decide +kernel)
theorem ml_L_47 : Cond.methodLink RL 47 yX9_trust ∈ lw_tbl := List.mem_of_getElem? (i := 410) (by decide +kernel)
theorem im_X9_trust : Cond.instanceMethod yX9_trust ∈ lw_tbl := List.mem_of_getElem? (i := 411) (by decide +kernel)
theorem se_X9_trust : Cond.selects RX9 yX9_trust yX9_trust ∈ lw_tbl := List.mem_of_getElem? (i := 412) (by decide +kernel)
theorem cd_X9_trust : Cond.code yX9_trust cX9_trust 4 (some .int) ∈ lw_tbl := List.mem_of_getElem? (i := 413) (by decide +kernel)
theorem ml_L_51 : Cond.methodLink RL 51 yX9_keep ∈ lw_tbl := List.mem_of_getElem? (i := 414) (by decide +kernel)
theorem im_X9_keep : Cond.instanceMethod yX9_keep ∈ lw_tbl := List.mem_of_getElem? (i := 415) (by decide +kernel)
theorem se_X9_keep : Cond.selects RX9 yX9_keep yX9_keep ∈ lw_tbl := List.mem_of_getElem? (i := 416) (by decide +kernel)
theorem cd_X9_keep : Cond.code yX9_keep cX9_keep 4 (some .int) ∈ lw_tbl := List.mem_of_getElem? (i := 417) (by decide +kernel)
theorem ml_L_56 : Cond.methodLink RL 56 yX9_about ∈ lw_tbl := List.mem_of_getElem? (i := 418) (by decide +kernel)
theorem im_X9_about : Cond.instanceMethod yX9_about ∈ lw_tbl := List.mem_of_getElem? (i := 419) (by decide +kernel)
theorem se_X9_about : Cond.selects RX9 yX9_about yX9_about ∈ lw_tbl := List.mem_of_getElem? (i := 420) (by decide +kernel)
theorem cd_X9_about : Cond.code yX9_about cX9_about 4 (some .int) ∈ lw_tbl := List.mem_of_getElem? (i := 421) (by decide +kernel)
theorem ml_L_60 : Cond.methodLink RL 60 yX9_law ∈ lw_tbl := List.mem_of_getElem? (i := 422) (by decide +kernel)
theorem im_X9_law : Cond.instanceMethod yX9_law ∈ lw_tbl := List.mem_of_getElem? (i := 423) (by decide +kernel)
theorem se_X9_law : Cond.selects RX9 yX9_law yX9_law ∈ lw_tbl := List.mem_of_getElem? (i := 424) (by decide +kernel)
theorem cd_X9_law : Cond.code yX9_law cX9_law 11 (some .int) ∈ lw_tbl := List.mem_of_getElem? (i := 425) (by decide +kernel)
theorem ml_X9_127 : Cond.methodLink RX9 127 yX9_faultOfColumnIn ∈ lw_tbl := List.mem_of_getElem? (i := 426) (by decide +kernel)
theorem im_X9_faultOfColumnIn : Cond.instanceMethod yX9_faultOfColumnIn ∈ lw_tbl := List.mem_of_getElem? (i := 428) (by decide +kernel)
theorem cd_X9_faultOfColumnIn : Cond.code yX9_faultOfColumnIn cX9_faultOfColumnIn 4 (some .int) ∈ lw_tbl := List.mem_of_getElem? (i := 429) (by decide +kernel)
theorem ml_X9_130 : Cond.methodLink RX9 130 yX9_looksAtTwo ∈ lw_tbl := List.mem_of_getElem? (i := 430) (by decide +kernel)
theorem st_X9_looksAtTwo : Cond.static yX9_looksAtTwo ∈ lw_tbl := List.mem_of_getElem? (i := 431) (by decide +kernel)
theorem cd_X9_looksAtTwo : Cond.code yX9_looksAtTwo cX9_looksAtTwo 1 (some .boolean) ∈ lw_tbl := List.mem_of_getElem? (i := 432) (by decide +kernel)
theorem ml_X9_133 : Cond.methodLink RX9 133 yX2_add ∈ lw_tbl := List.mem_of_getElem? (i := 433) (by decide +kernel)
theorem im_X2_add : Cond.instanceMethod yX2_add ∈ lw_tbl := List.mem_of_getElem? (i := 434) (by decide +kernel)
theorem se_X2_add : Cond.selects RX2 yX2_add yX2_add ∈ lw_tbl := List.mem_of_getElem? (i := 435) (by decide +kernel)
theorem cd_X2_add : Cond.code yX2_add cX2_add 4 (some (.object "CleaningBench$Law")) ∈ lw_tbl := List.mem_of_getElem? (i := 436) (by decide +kernel)
theorem ml_L_65 : Cond.methodLink RL 65 yX9_among ∈ lw_tbl := List.mem_of_getElem? (i := 437) (by decide +kernel)
theorem im_X9_among : Cond.instanceMethod yX9_among ∈ lw_tbl := List.mem_of_getElem? (i := 438) (by decide +kernel)
theorem se_X9_among : Cond.selects RX9 yX9_among yX9_among ∈ lw_tbl := List.mem_of_getElem? (i := 439) (by decide +kernel)
theorem cd_X9_among : Cond.code yX9_among cX9_among 7 (some .int) ∈ lw_tbl := List.mem_of_getElem? (i := 440) (by decide +kernel)
theorem ml_L_70 : Cond.methodLink RL 70 yX9_force ∈ lw_tbl := List.mem_of_getElem? (i := 441) (by decide +kernel)
theorem im_X9_force : Cond.instanceMethod yX9_force ∈ lw_tbl := List.mem_of_getElem? (i := 442) (by decide +kernel)
theorem se_X9_force : Cond.selects RX9 yX9_force yX9_force ∈ lw_tbl := List.mem_of_getElem? (i := 443) (by decide +kernel)
theorem cd_X9_force : Cond.code yX9_force cX9_force 4 (some .int) ∈ lw_tbl := List.mem_of_getElem? (i := 444) (by decide +kernel)
theorem ml_X9_154 : Cond.methodLink RX9 154 yX9_isLaw ∈ lw_tbl := List.mem_of_getElem? (i := 445) (by decide +kernel)
theorem im_X9_isLaw : Cond.instanceMethod yX9_isLaw ∈ lw_tbl := List.mem_of_getElem? (i := 447) (by decide +kernel)
theorem cd_X9_isLaw : Cond.code yX9_isLaw cX9_isLaw 2 (some .boolean) ∈ lw_tbl := List.mem_of_getElem? (i := 448) (by decide +kernel)
theorem ml_L_74 : Cond.methodLink RL 74 yX9_most ∈ lw_tbl := List.mem_of_getElem? (i := 449) (by decide +kernel)
theorem im_X9_most : Cond.instanceMethod yX9_most ∈ lw_tbl := List.mem_of_getElem? (i := 450) (by decide +kernel)
theorem se_X9_most : Cond.selects RX9 yX9_most yX9_most ∈ lw_tbl := List.mem_of_getElem? (i := 451) (by decide +kernel)
theorem cd_X9_most : Cond.code yX9_most cX9_most 2 (some .long) ∈ lw_tbl := List.mem_of_getElem? (i := 452) (by decide +kernel)
theorem co_X9_163 : Cond.constantLong RX9 163 (-1) ∈ lw_tbl := List.mem_of_getElem? (i := 453) (by decide +kernel)
theorem ml_L_79 : Cond.methodLink RL 79 yX9_quarrels ∈ lw_tbl := List.mem_of_getElem? (i := 454) (by decide +kernel)
theorem im_X9_quarrels : Cond.instanceMethod yX9_quarrels ∈ lw_tbl := List.mem_of_getElem? (i := 455) (by decide +kernel)
theorem se_X9_quarrels : Cond.selects RX9 yX9_quarrels yX9_quarrels ∈ lw_tbl := List.mem_of_getElem? (i := 456) (by decide +kernel)
theorem cd_X9_quarrels : Cond.code yX9_quarrels cX9_quarrels 2 (some .int) ∈ lw_tbl := List.mem_of_getElem? (i := 457) (by decide +kernel)
theorem ml_X9_168 : Cond.methodLink RX9 168 yX7_kept ∈ lw_tbl := List.mem_of_getElem? (i := 458) (by decide +kernel)
theorem im_X7_kept : Cond.instanceMethod yX7_kept ∈ lw_tbl := List.mem_of_getElem? (i := 459) (by decide +kernel)
theorem se_X7_kept : Cond.selects RX7 yX7_kept yX7_kept ∈ lw_tbl := List.mem_of_getElem? (i := 460) (by decide +kernel)
theorem cd_X7_kept : Cond.code yX7_kept cX7_kept 3 (some .int) ∈ lw_tbl := List.mem_of_getElem? (i := 461) (by decide +kernel)
theorem ml_X9_171 : Cond.methodLink RX9 171 yX2_find ∈ lw_tbl := List.mem_of_getElem? (i := 462) (by decide +kernel)
theorem im_X2_find : Cond.instanceMethod yX2_find ∈ lw_tbl := List.mem_of_getElem? (i := 463) (by decide +kernel)
theorem se_X2_find : Cond.selects RX2 yX2_find yX2_find ∈ lw_tbl := List.mem_of_getElem? (i := 464) (by decide +kernel)
theorem cd_X2_find : Cond.code yX2_find cX2_find 3 none ∈ lw_tbl := List.mem_of_getElem? (i := 465) (by decide +kernel)
theorem ml_X2_47 : Cond.methodLink RX2 47 yX2_findPairs ∈ lw_tbl := List.mem_of_getElem? (i := 466) (by decide +kernel)
theorem im_X2_findPairs : Cond.instanceMethod yX2_findPairs ∈ lw_tbl := List.mem_of_getElem? (i := 467) (by decide +kernel)
theorem se_X2_findPairs : Cond.selects RX2 yX2_findPairs yX2_findPairs ∈ lw_tbl := List.mem_of_getElem? (i := 468) (by decide +kernel)
theorem cd_X2_findPairs : Cond.code yX2_findPairs cX2_findPairs 6 none ∈ lw_tbl := List.mem_of_getElem? (i := 469) (by decide +kernel)
theorem ml_X2_98 : Cond.methodLink RX2 98 yX7_withCell ∈ lw_tbl := List.mem_of_getElem? (i := 470) (by decide +kernel)
theorem im_X7_withCell : Cond.instanceMethod yX7_withCell ∈ lw_tbl := List.mem_of_getElem? (i := 471) (by decide +kernel)
theorem se_X7_withCell : Cond.selects RX7 yX7_withCell yX7_withCell ∈ lw_tbl := List.mem_of_getElem? (i := 472) (by decide +kernel)
theorem cd_X7_withCell : Cond.code yX7_withCell cX7_withCell 6 (some .int) ∈ lw_tbl := List.mem_of_getElem? (i := 473) (by decide +kernel)
theorem mn_X7_32 : Cond.methodLinkNest RX7 32 yX9_isIn RX9 ∈ lw_tbl := List.mem_of_getElem? (i := 474) (by decide +kernel)
theorem st_X9_isIn : Cond.static yX9_isIn ∈ lw_tbl := List.mem_of_getElem? (i := 475) (by decide +kernel)
theorem cd_X9_isIn : Cond.code yX9_isIn cX9_isIn 2 (some .boolean) ∈ lw_tbl := List.mem_of_getElem? (i := 476) (by decide +kernel)
theorem mn_X2_62 : Cond.methodLinkNest RX2 62 yX9_isIn RX9 ∈ lw_tbl := List.mem_of_getElem? (i := 477) (by decide +kernel)
theorem ml_X2_112 : Cond.methodLink RX2 112 yX2_quarrelTogether ∈ lw_tbl := List.mem_of_getElem? (i := 478) (by decide +kernel)
theorem im_X2_quarrelTogether : Cond.instanceMethod yX2_quarrelTogether ∈ lw_tbl := List.mem_of_getElem? (i := 479) (by decide +kernel)
theorem se_X2_quarrelTogether : Cond.selects RX2 yX2_quarrelTogether yX2_quarrelTogether ∈ lw_tbl := List.mem_of_getElem? (i := 480) (by decide +kernel)
theorem cd_X2_quarrelTogether : Cond.code yX2_quarrelTogether cX2_quarrelTogether 8 (some .boolean) ∈ lw_tbl := List.mem_of_getElem? (i := 481) (by decide +kernel)
theorem ml_X2_116 : Cond.methodLink RX2 116 yX2_areNearer ∈ lw_tbl := List.mem_of_getElem? (i := 482) (by decide +kernel)
theorem im_X2_areNearer : Cond.instanceMethod yX2_areNearer ∈ lw_tbl := List.mem_of_getElem? (i := 483) (by decide +kernel)
theorem se_X2_areNearer : Cond.selects RX2 yX2_areNearer yX2_areNearer ∈ lw_tbl := List.mem_of_getElem? (i := 484) (by decide +kernel)
theorem cd_X2_areNearer : Cond.code yX2_areNearer cX2_areNearer 9 (some .boolean) ∈ lw_tbl := List.mem_of_getElem? (i := 485) (by decide +kernel)
theorem ml_X2_76 : Cond.methodLink RX2 76 yX2_addFound ∈ lw_tbl := List.mem_of_getElem? (i := 486) (by decide +kernel)
theorem im_X2_addFound : Cond.instanceMethod yX2_addFound ∈ lw_tbl := List.mem_of_getElem? (i := 487) (by decide +kernel)
theorem se_X2_addFound : Cond.selects RX2 yX2_addFound yX2_addFound ∈ lw_tbl := List.mem_of_getElem? (i := 488) (by decide +kernel)
theorem cd_X2_addFound : Cond.code yX2_addFound cX2_addFound 2 none ∈ lw_tbl := List.mem_of_getElem? (i := 489) (by decide +kernel)
theorem ml_X2_50 : Cond.methodLink RX2 50 yX2_findSums ∈ lw_tbl := List.mem_of_getElem? (i := 490) (by decide +kernel)
theorem im_X2_findSums : Cond.instanceMethod yX2_findSums ∈ lw_tbl := List.mem_of_getElem? (i := 491) (by decide +kernel)
theorem se_X2_findSums : Cond.selects RX2 yX2_findSums yX2_findSums ∈ lw_tbl := List.mem_of_getElem? (i := 492) (by decide +kernel)
theorem cd_X2_findSums : Cond.code yX2_findSums cX2_findSums 9 none ∈ lw_tbl := List.mem_of_getElem? (i := 493) (by decide +kernel)
theorem ml_X2_120 : Cond.methodLink RX2 120 yX7_aboveZero ∈ lw_tbl := List.mem_of_getElem? (i := 494) (by decide +kernel)
theorem im_X7_aboveZero : Cond.instanceMethod yX7_aboveZero ∈ lw_tbl := List.mem_of_getElem? (i := 495) (by decide +kernel)
theorem se_X7_aboveZero : Cond.selects RX7 yX7_aboveZero yX7_aboveZero ∈ lw_tbl := List.mem_of_getElem? (i := 496) (by decide +kernel)
theorem cd_X7_aboveZero : Cond.code yX7_aboveZero cX7_aboveZero 5 (some .int) ∈ lw_tbl := List.mem_of_getElem? (i := 497) (by decide +kernel)
theorem ml_X2_108 : Cond.methodLink RX2 108 yX7_withNumber ∈ lw_tbl := List.mem_of_getElem? (i := 498) (by decide +kernel)
theorem im_X7_withNumber : Cond.instanceMethod yX7_withNumber ∈ lw_tbl := List.mem_of_getElem? (i := 499) (by decide +kernel)
theorem se_X7_withNumber : Cond.selects RX7 yX7_withNumber yX7_withNumber ∈ lw_tbl := List.mem_of_getElem? (i := 500) (by decide +kernel)
theorem cd_X7_withNumber : Cond.code yX7_withNumber cX7_withNumber 9 (some .int) ∈ lw_tbl := List.mem_of_getElem? (i := 501) (by decide +kernel)
theorem ml_X2_124 : Cond.methodLink RX2 124 yX2_isLeastSum ∈ lw_tbl := List.mem_of_getElem? (i := 502) (by decide +kernel)
theorem im_X2_isLeastSum : Cond.instanceMethod yX2_isLeastSum ∈ lw_tbl := List.mem_of_getElem? (i := 503) (by decide +kernel)
theorem se_X2_isLeastSum : Cond.selects RX2 yX2_isLeastSum yX2_isLeastSum ∈ lw_tbl := List.mem_of_getElem? (i := 504) (by decide +kernel)
theorem cd_X2_isLeastSum : Cond.code yX2_isLeastSum cX2_isLeastSum 13 (some .boolean) ∈ lw_tbl := List.mem_of_getElem? (i := 505) (by decide +kernel)
theorem ml_X2_53 : Cond.methodLink RX2 53 yX2_findUnhelped ∈ lw_tbl := List.mem_of_getElem? (i := 506) (by decide +kernel)
theorem im_X2_findUnhelped : Cond.instanceMethod yX2_findUnhelped ∈ lw_tbl := List.mem_of_getElem? (i := 507) (by decide +kernel)
theorem se_X2_findUnhelped : Cond.selects RX2 yX2_findUnhelped yX2_findUnhelped ∈ lw_tbl := List.mem_of_getElem? (i := 508) (by decide +kernel)
theorem cd_X2_findUnhelped : Cond.code yX2_findUnhelped cX2_findUnhelped 7 none ∈ lw_tbl := List.mem_of_getElem? (i := 509) (by decide +kernel)
theorem ml_X2_56 : Cond.methodLink RX2 56 yX2_findSingles ∈ lw_tbl := List.mem_of_getElem? (i := 510) (by decide +kernel)
theorem im_X2_findSingles : Cond.instanceMethod yX2_findSingles ∈ lw_tbl := List.mem_of_getElem? (i := 511) (by decide +kernel)
theorem se_X2_findSingles : Cond.selects RX2 yX2_findSingles yX2_findSingles ∈ lw_tbl := List.mem_of_getElem? (i := 512) (by decide +kernel)
theorem cd_X2_findSingles : Cond.code yX2_findSingles cX2_findSingles 4 none ∈ lw_tbl := List.mem_of_getElem? (i := 513) (by decide +kernel)
theorem ml_X2_72 : Cond.methodLink RX2 72 yX2_quarrelsAlone ∈ lw_tbl := List.mem_of_getElem? (i := 514) (by decide +kernel)
theorem im_X2_quarrelsAlone : Cond.instanceMethod yX2_quarrelsAlone ∈ lw_tbl := List.mem_of_getElem? (i := 515) (by decide +kernel)
theorem se_X2_quarrelsAlone : Cond.selects RX2 yX2_quarrelsAlone yX2_quarrelsAlone ∈ lw_tbl := List.mem_of_getElem? (i := 516) (by decide +kernel)
theorem cd_X2_quarrelsAlone : Cond.code yX2_quarrelsAlone cX2_quarrelsAlone 5 (some .boolean) ∈ lw_tbl := List.mem_of_getElem? (i := 517) (by decide +kernel)
theorem ml_L_84 : Cond.methodLink RL 84 yX9_quarrel ∈ lw_tbl := List.mem_of_getElem? (i := 518) (by decide +kernel)
theorem im_X9_quarrel : Cond.instanceMethod yX9_quarrel ∈ lw_tbl := List.mem_of_getElem? (i := 519) (by decide +kernel)
theorem se_X9_quarrel : Cond.selects RX9 yX9_quarrel yX9_quarrel ∈ lw_tbl := List.mem_of_getElem? (i := 520) (by decide +kernel)
theorem cd_X9_quarrel : Cond.code yX9_quarrel cX9_quarrel 3 (some .int) ∈ lw_tbl := List.mem_of_getElem? (i := 521) (by decide +kernel)
theorem ml_L_88 : Cond.methodLink RL 88 yX9_clean ∈ lw_tbl := List.mem_of_getElem? (i := 522) (by decide +kernel)
theorem im_X9_clean : Cond.instanceMethod yX9_clean ∈ lw_tbl := List.mem_of_getElem? (i := 523) (by decide +kernel)
theorem se_X9_clean : Cond.selects RX9 yX9_clean yX9_clean ∈ lw_tbl := List.mem_of_getElem? (i := 524) (by decide +kernel)
theorem cd_X9_clean : Cond.code yX9_clean cX9_clean 1 (some .int) ∈ lw_tbl := List.mem_of_getElem? (i := 525) (by decide +kernel)
theorem ml_X9_180 : Cond.methodLink RX9 180 yX2_leastBroken ∈ lw_tbl := List.mem_of_getElem? (i := 526) (by decide +kernel)
theorem im_X2_leastBroken : Cond.instanceMethod yX2_leastBroken ∈ lw_tbl := List.mem_of_getElem? (i := 527) (by decide +kernel)
theorem se_X2_leastBroken : Cond.selects RX2 yX2_leastBroken yX2_leastBroken ∈ lw_tbl := List.mem_of_getElem? (i := 528) (by decide +kernel)
theorem cd_X2_leastBroken : Cond.code yX2_leastBroken cX2_leastBroken 3 (some .int) ∈ lw_tbl := List.mem_of_getElem? (i := 529) (by decide +kernel)
theorem ml_X2_40 : Cond.methodLink RX2 40 yX2_find ∈ lw_tbl := List.mem_of_getElem? (i := 530) (by decide +kernel)
theorem ml_L_93 : Cond.methodLink RL 93 yX9_breaks ∈ lw_tbl := List.mem_of_getElem? (i := 531) (by decide +kernel)
theorem im_X9_breaks : Cond.instanceMethod yX9_breaks ∈ lw_tbl := List.mem_of_getElem? (i := 532) (by decide +kernel)
theorem se_X9_breaks : Cond.selects RX9 yX9_breaks yX9_breaks ∈ lw_tbl := List.mem_of_getElem? (i := 533) (by decide +kernel)
theorem cd_X9_breaks : Cond.code yX9_breaks cX9_breaks 2 (some .int) ∈ lw_tbl := List.mem_of_getElem? (i := 534) (by decide +kernel)
theorem ml_L_97 : Cond.methodLink RL 97 yX9_mends ∈ lw_tbl := List.mem_of_getElem? (i := 535) (by decide +kernel)
theorem im_X9_mends : Cond.instanceMethod yX9_mends ∈ lw_tbl := List.mem_of_getElem? (i := 536) (by decide +kernel)
theorem se_X9_mends : Cond.selects RX9 yX9_mends yX9_mends ∈ lw_tbl := List.mem_of_getElem? (i := 537) (by decide +kernel)
theorem cd_X9_mends : Cond.code yX9_mends cX9_mends 1 (some .int) ∈ lw_tbl := List.mem_of_getElem? (i := 538) (by decide +kernel)
theorem ml_X9_183 : Cond.methodLink RX9 183 yX3_find ∈ lw_tbl := List.mem_of_getElem? (i := 539) (by decide +kernel)
theorem im_X3_find : Cond.instanceMethod yX3_find ∈ lw_tbl := List.mem_of_getElem? (i := 540) (by decide +kernel)
theorem se_X3_find : Cond.selects RX3 yX3_find yX3_find ∈ lw_tbl := List.mem_of_getElem? (i := 541) (by decide +kernel)
theorem cd_X3_find : Cond.code yX3_find cX3_find 4 none ∈ lw_tbl := List.mem_of_getElem? (i := 542) (by decide +kernel)
theorem ml_X3_30 : Cond.methodLink RX3 30 yX7_kept ∈ lw_tbl := List.mem_of_getElem? (i := 543) (by decide +kernel)
theorem ml_X3_39 : Cond.methodLink RX3 39 yX3_findBroken ∈ lw_tbl := List.mem_of_getElem? (i := 544) (by decide +kernel)
theorem im_X3_findBroken : Cond.instanceMethod yX3_findBroken ∈ lw_tbl := List.mem_of_getElem? (i := 545) (by decide +kernel)
theorem se_X3_findBroken : Cond.selects RX3 yX3_findBroken yX3_findBroken ∈ lw_tbl := List.mem_of_getElem? (i := 546) (by decide +kernel)
theorem cd_X3_findBroken : Cond.code yX3_findBroken cX3_findBroken 3 none ∈ lw_tbl := List.mem_of_getElem? (i := 547) (by decide +kernel)
theorem mn_X3_54 : Cond.methodLinkNest RX3 54 yX9_unmark RX9 ∈ lw_tbl := List.mem_of_getElem? (i := 548) (by decide +kernel)
theorem st_X9_unmark : Cond.static yX9_unmark ∈ lw_tbl := List.mem_of_getElem? (i := 549) (by decide +kernel)
theorem cd_X9_unmark : Cond.code yX9_unmark cX9_unmark 4 none ∈ lw_tbl := List.mem_of_getElem? (i := 550) (by decide +kernel)
theorem ml_X3_74 : Cond.methodLink RX3 74 yX2_find ∈ lw_tbl := List.mem_of_getElem? (i := 551) (by decide +kernel)
theorem mn_X3_84 : Cond.methodLinkNest RX3 84 yX9_markWholes RX9 ∈ lw_tbl := List.mem_of_getElem? (i := 552) (by decide +kernel)
theorem st_X9_markWholes : Cond.static yX9_markWholes ∈ lw_tbl := List.mem_of_getElem? (i := 553) (by decide +kernel)
theorem cd_X9_markWholes : Cond.code yX9_markWholes cX9_markWholes 5 none ∈ lw_tbl := List.mem_of_getElem? (i := 554) (by decide +kernel)
theorem ml_X3_87 : Cond.methodLink RX3 87 yX3_breakAmong ∈ lw_tbl := List.mem_of_getElem? (i := 555) (by decide +kernel)
theorem im_X3_breakAmong : Cond.instanceMethod yX3_breakAmong ∈ lw_tbl := List.mem_of_getElem? (i := 556) (by decide +kernel)
theorem se_X3_breakAmong : Cond.selects RX3 yX3_breakAmong yX3_breakAmong ∈ lw_tbl := List.mem_of_getElem? (i := 557) (by decide +kernel)
theorem cd_X3_breakAmong : Cond.code yX3_breakAmong cX3_breakAmong 6 none ∈ lw_tbl := List.mem_of_getElem? (i := 558) (by decide +kernel)
theorem ml_X3_97 : Cond.methodLink RX3 97 yX7_withCell ∈ lw_tbl := List.mem_of_getElem? (i := 559) (by decide +kernel)
theorem mn_X3_50 : Cond.methodLinkNest RX3 50 yX9_isIn RX9 ∈ lw_tbl := List.mem_of_getElem? (i := 560) (by decide +kernel)
theorem ml_X3_116 : Cond.methodLink RX3 116 yX7_withNumber ∈ lw_tbl := List.mem_of_getElem? (i := 561) (by decide +kernel)
theorem ml_X3_120 : Cond.methodLink RX3 120 yX3_breakWithout ∈ lw_tbl := List.mem_of_getElem? (i := 562) (by decide +kernel)
theorem im_X3_breakWithout : Cond.instanceMethod yX3_breakWithout ∈ lw_tbl := List.mem_of_getElem? (i := 563) (by decide +kernel)
theorem se_X3_breakWithout : Cond.selects RX3 yX3_breakWithout yX3_breakWithout ∈ lw_tbl := List.mem_of_getElem? (i := 564) (by decide +kernel)
theorem cd_X3_breakWithout : Cond.code yX3_breakWithout cX3_breakWithout 4 none ∈ lw_tbl := List.mem_of_getElem? (i := 565) (by decide +kernel)
theorem ml_X3_45 : Cond.methodLink RX3 45 yX3_isMoreThanOne ∈ lw_tbl := List.mem_of_getElem? (i := 566) (by decide +kernel)
theorem im_X3_isMoreThanOne : Cond.instanceMethod yX3_isMoreThanOne ∈ lw_tbl := List.mem_of_getElem? (i := 567) (by decide +kernel)
theorem se_X3_isMoreThanOne : Cond.selects RX3 yX3_isMoreThanOne yX3_isMoreThanOne ∈ lw_tbl := List.mem_of_getElem? (i := 568) (by decide +kernel)
theorem cd_X3_isMoreThanOne : Cond.code yX3_isMoreThanOne cX3_isMoreThanOne 3 (some .boolean) ∈ lw_tbl := List.mem_of_getElem? (i := 569) (by decide +kernel)
theorem ml_L_101 : Cond.methodLink RL 101 yX9_mending ∈ lw_tbl := List.mem_of_getElem? (i := 570) (by decide +kernel)
theorem im_X9_mending : Cond.instanceMethod yX9_mending ∈ lw_tbl := List.mem_of_getElem? (i := 571) (by decide +kernel)
theorem se_X9_mending : Cond.selects RX9 yX9_mending yX9_mending ∈ lw_tbl := List.mem_of_getElem? (i := 572) (by decide +kernel)
theorem cd_X9_mending : Cond.code yX9_mending cX9_mending 2 (some .int) ∈ lw_tbl := List.mem_of_getElem? (i := 573) (by decide +kernel)
theorem ml_L_105 : Cond.methodLink RL 105 yX9_price ∈ lw_tbl := List.mem_of_getElem? (i := 574) (by decide +kernel)
theorem im_X9_price : Cond.instanceMethod yX9_price ∈ lw_tbl := List.mem_of_getElem? (i := 575) (by decide +kernel)
theorem se_X9_price : Cond.selects RX9 yX9_price yX9_price ∈ lw_tbl := List.mem_of_getElem? (i := 576) (by decide +kernel)
theorem cd_X9_price : Cond.code yX9_price cX9_price 1 (some .int) ∈ lw_tbl := List.mem_of_getElem? (i := 577) (by decide +kernel)
theorem ml_X9_189 : Cond.methodLink RX9 189 yX3_cheapest ∈ lw_tbl := List.mem_of_getElem? (i := 578) (by decide +kernel)
theorem im_X3_cheapest : Cond.instanceMethod yX3_cheapest ∈ lw_tbl := List.mem_of_getElem? (i := 579) (by decide +kernel)
theorem se_X3_cheapest : Cond.selects RX3 yX3_cheapest yX3_cheapest ∈ lw_tbl := List.mem_of_getElem? (i := 580) (by decide +kernel)
theorem cd_X3_cheapest : Cond.code yX3_cheapest cX3_cheapest 5 (some .int) ∈ lw_tbl := List.mem_of_getElem? (i := 581) (by decide +kernel)
theorem ml_X3_124 : Cond.methodLink RX3 124 yX7_trustOf ∈ lw_tbl := List.mem_of_getElem? (i := 582) (by decide +kernel)
theorem im_X7_trustOf : Cond.instanceMethod yX7_trustOf ∈ lw_tbl := List.mem_of_getElem? (i := 583) (by decide +kernel)
theorem se_X7_trustOf : Cond.selects RX7 yX7_trustOf yX7_trustOf ∈ lw_tbl := List.mem_of_getElem? (i := 584) (by decide +kernel)
theorem cd_X7_trustOf : Cond.code yX7_trustOf cX7_trustOf 4 (some .int) ∈ lw_tbl := List.mem_of_getElem? (i := 585) (by decide +kernel)
theorem ml_X9_192 : Cond.methodLink RX9 192 yX7_trustOf ∈ lw_tbl := List.mem_of_getElem? (i := 586) (by decide +kernel)
theorem ml_L_109 : Cond.methodLink RL 109 yX9_best ∈ lw_tbl := List.mem_of_getElem? (i := 587) (by decide +kernel)
theorem im_X9_best : Cond.instanceMethod yX9_best ∈ lw_tbl := List.mem_of_getElem? (i := 588) (by decide +kernel)
theorem se_X9_best : Cond.selects RX9 yX9_best yX9_best ∈ lw_tbl := List.mem_of_getElem? (i := 589) (by decide +kernel)
theorem cd_X9_best : Cond.code yX9_best cX9_best 1 (some .int) ∈ lw_tbl := List.mem_of_getElem? (i := 590) (by decide +kernel)
theorem ml_L_113 : Cond.methodLink RL 113 yX9_blame ∈ lw_tbl := List.mem_of_getElem? (i := 591) (by decide +kernel)
theorem im_X9_blame : Cond.instanceMethod yX9_blame ∈ lw_tbl := List.mem_of_getElem? (i := 592) (by decide +kernel)
theorem se_X9_blame : Cond.selects RX9 yX9_blame yX9_blame ∈ lw_tbl := List.mem_of_getElem? (i := 593) (by decide +kernel)
theorem cd_X9_blame : Cond.code yX9_blame cX9_blame 4 (some .int) ∈ lw_tbl := List.mem_of_getElem? (i := 594) (by decide +kernel)
theorem ml_X9_195 : Cond.methodLink RX9 195 yX9_isIn ∈ lw_tbl := List.mem_of_getElem? (i := 595) (by decide +kernel)
theorem ml_L_117 : Cond.methodLink RL 117 yX9_sum ∈ lw_tbl := List.mem_of_getElem? (i := 596) (by decide +kernel)
theorem im_X9_sum : Cond.instanceMethod yX9_sum ∈ lw_tbl := List.mem_of_getElem? (i := 597) (by decide +kernel)
theorem se_X9_sum : Cond.selects RX9 yX9_sum yX9_sum ∈ lw_tbl := List.mem_of_getElem? (i := 598) (by decide +kernel)
theorem cd_X9_sum : Cond.code yX9_sum cX9_sum 10 (some .long) ∈ lw_tbl := List.mem_of_getElem? (i := 599) (by decide +kernel)
theorem ml_X9_198 : Cond.methodLink RX9 198 yX3_leftBy ∈ lw_tbl := List.mem_of_getElem? (i := 600) (by decide +kernel)
theorem im_X3_leftBy : Cond.instanceMethod yX3_leftBy ∈ lw_tbl := List.mem_of_getElem? (i := 601) (by decide +kernel)
theorem se_X3_leftBy : Cond.selects RX3 yX3_leftBy yX3_leftBy ∈ lw_tbl := List.mem_of_getElem? (i := 602) (by decide +kernel)
theorem cd_X3_leftBy : Cond.code yX3_leftBy cX3_leftBy 2 (some .int) ∈ lw_tbl := List.mem_of_getElem? (i := 603) (by decide +kernel)
theorem ml_X9_201 : Cond.methodLink RX9 201 yX7_added ∈ lw_tbl := List.mem_of_getElem? (i := 604) (by decide +kernel)
theorem im_X7_added : Cond.instanceMethod yX7_added ∈ lw_tbl := List.mem_of_getElem? (i := 605) (by decide +kernel)
theorem se_X7_added : Cond.selects RX7 yX7_added yX7_added ∈ lw_tbl := List.mem_of_getElem? (i := 606) (by decide +kernel)
theorem cd_X7_added : Cond.code yX7_added cX7_added 8 (some .long) ∈ lw_tbl := List.mem_of_getElem? (i := 607) (by decide +kernel)
theorem ml_X7_48 : Cond.methodLink RX7 48 yX7_withCell ∈ lw_tbl := List.mem_of_getElem? (i := 608) (by decide +kernel)
theorem ml_L_122 : Cond.methodLink RL 122 yX9_mend ∈ lw_tbl := List.mem_of_getElem? (i := 609) (by decide +kernel)
theorem im_X9_mend : Cond.instanceMethod yX9_mend ∈ lw_tbl := List.mem_of_getElem? (i := 610) (by decide +kernel)
theorem se_X9_mend : Cond.selects RX9 yX9_mend yX9_mend ∈ lw_tbl := List.mem_of_getElem? (i := 611) (by decide +kernel)
theorem cd_X9_mend : Cond.code yX9_mend cX9_mend 2 (some .int) ∈ lw_tbl := List.mem_of_getElem? (i := 612) (by decide +kernel)
theorem ml_X9_205 : Cond.methodLink RX9 205 yX7_drop ∈ lw_tbl := List.mem_of_getElem? (i := 613) (by decide +kernel)
theorem im_X7_drop : Cond.instanceMethod yX7_drop ∈ lw_tbl := List.mem_of_getElem? (i := 614) (by decide +kernel)
theorem se_X7_drop : Cond.selects RX7 yX7_drop yX7_drop ∈ lw_tbl := List.mem_of_getElem? (i := 615) (by decide +kernel)
theorem cd_X7_drop : Cond.code yX7_drop cX7_drop 3 none ∈ lw_tbl := List.mem_of_getElem? (i := 616) (by decide +kernel)
theorem ml_X9_209 : Cond.methodLink RX9 209 yJ6_bitCount_0f7a4 ∈ lw_tbl := List.mem_of_getElem? (i := 617) (by decide +kernel)
theorem st_J6_bitCount_0f7a4 : Cond.static yJ6_bitCount_0f7a4 ∈ lw_tbl := List.mem_of_getElem? (i := 618) (by decide +kernel)
theorem cd_J6_bitCount_0f7a4 : Cond.code yJ6_bitCount_0f7a4 cJ6_bitCount_0f7a4 1 (some .int) ∈ lw_tbl := List.mem_of_getElem? (i := 619) (by decide +kernel)
theorem co_J6_265 : Cond.constant RJ6 265 1431655765 ∈ lw_tbl := List.mem_of_getElem? (i := 620) (by decide +kernel)
theorem co_J6_266 : Cond.constant RJ6 266 858993459 ∈ lw_tbl := List.mem_of_getElem? (i := 621) (by decide +kernel)
theorem co_J6_267 : Cond.constant RJ6 267 252645135 ∈ lw_tbl := List.mem_of_getElem? (i := 622) (by decide +kernel)
theorem ml_L_126 : Cond.methodLink RL 126 yX9_settle ∈ lw_tbl := List.mem_of_getElem? (i := 623) (by decide +kernel)
theorem im_X9_settle : Cond.instanceMethod yX9_settle ∈ lw_tbl := List.mem_of_getElem? (i := 624) (by decide +kernel)
theorem se_X9_settle : Cond.selects RX9 yX9_settle yX9_settle ∈ lw_tbl := List.mem_of_getElem? (i := 625) (by decide +kernel)
theorem cd_X9_settle : Cond.code yX9_settle cX9_settle 3 (some .int) ∈ lw_tbl := List.mem_of_getElem? (i := 626) (by decide +kernel)
theorem ml_X9_215 : Cond.methodLink RX9 215 yX7_settleAll ∈ lw_tbl := List.mem_of_getElem? (i := 627) (by decide +kernel)
theorem im_X7_settleAll : Cond.instanceMethod yX7_settleAll ∈ lw_tbl := List.mem_of_getElem? (i := 628) (by decide +kernel)
theorem se_X7_settleAll : Cond.selects RX7 yX7_settleAll yX7_settleAll ∈ lw_tbl := List.mem_of_getElem? (i := 629) (by decide +kernel)
theorem cd_X7_settleAll : Cond.code yX7_settleAll cX7_settleAll 8 (some .int) ∈ lw_tbl := List.mem_of_getElem? (i := 630) (by decide +kernel)
theorem ml_X7_52 : Cond.methodLink RX7 52 yX7_kept ∈ lw_tbl := List.mem_of_getElem? (i := 631) (by decide +kernel)
theorem ml_X7_55 : Cond.methodLink RX7 55 yX7_withNumber ∈ lw_tbl := List.mem_of_getElem? (i := 632) (by decide +kernel)
theorem ml_X7_59 : Cond.methodLink RX7 59 yX7_settleGroup ∈ lw_tbl := List.mem_of_getElem? (i := 633) (by decide +kernel)
theorem im_X7_settleGroup : Cond.instanceMethod yX7_settleGroup ∈ lw_tbl := List.mem_of_getElem? (i := 634) (by decide +kernel)
theorem se_X7_settleGroup : Cond.selects RX7 yX7_settleGroup yX7_settleGroup ∈ lw_tbl := List.mem_of_getElem? (i := 635) (by decide +kernel)
theorem cd_X7_settleGroup : Cond.code yX7_settleGroup cX7_settleGroup 8 (some .int) ∈ lw_tbl := List.mem_of_getElem? (i := 636) (by decide +kernel)
theorem ml_X7_62 : Cond.methodLink RX7 62 yX7_mostTrusted ∈ lw_tbl := List.mem_of_getElem? (i := 637) (by decide +kernel)
theorem im_X7_mostTrusted : Cond.instanceMethod yX7_mostTrusted ∈ lw_tbl := List.mem_of_getElem? (i := 638) (by decide +kernel)
theorem se_X7_mostTrusted : Cond.selects RX7 yX7_mostTrusted yX7_mostTrusted ∈ lw_tbl := List.mem_of_getElem? (i := 639) (by decide +kernel)
theorem cd_X7_mostTrusted : Cond.code yX7_mostTrusted cX7_mostTrusted 11 (some .long) ∈ lw_tbl := List.mem_of_getElem? (i := 640) (by decide +kernel)
theorem ml_X7_66 : Cond.methodLink RX7 66 yX7_trustOf ∈ lw_tbl := List.mem_of_getElem? (i := 641) (by decide +kernel)
theorem ml_L_130 : Cond.methodLink RL 130 yX9_ask ∈ lw_tbl := List.mem_of_getElem? (i := 642) (by decide +kernel)
theorem im_X9_ask : Cond.instanceMethod yX9_ask ∈ lw_tbl := List.mem_of_getElem? (i := 643) (by decide +kernel)
theorem se_X9_ask : Cond.selects RX9 yX9_ask yX9_ask ∈ lw_tbl := List.mem_of_getElem? (i := 644) (by decide +kernel)
theorem cd_X9_ask : Cond.code yX9_ask cX9_ask 2 (some .int) ∈ lw_tbl := List.mem_of_getElem? (i := 645) (by decide +kernel)
theorem ml_X9_222 : Cond.methodLink RX9 222 yX5_clear ∈ lw_tbl := List.mem_of_getElem? (i := 646) (by decide +kernel)
theorem im_X5_clear : Cond.instanceMethod yX5_clear ∈ lw_tbl := List.mem_of_getElem? (i := 647) (by decide +kernel)
theorem se_X5_clear : Cond.selects RX5 yX5_clear yX5_clear ∈ lw_tbl := List.mem_of_getElem? (i := 648) (by decide +kernel)
theorem cd_X5_clear : Cond.code yX5_clear cX5_clear 1 none ∈ lw_tbl := List.mem_of_getElem? (i := 649) (by decide +kernel)
theorem ml_L_134 : Cond.methodLink RL 134 yX9_part ∈ lw_tbl := List.mem_of_getElem? (i := 650) (by decide +kernel)
theorem im_X9_part : Cond.instanceMethod yX9_part ∈ lw_tbl := List.mem_of_getElem? (i := 651) (by decide +kernel)
theorem se_X9_part : Cond.selects RX9 yX9_part yX9_part ∈ lw_tbl := List.mem_of_getElem? (i := 652) (by decide +kernel)
theorem cd_X9_part : Cond.code yX9_part cX9_part 3 (some .int) ∈ lw_tbl := List.mem_of_getElem? (i := 653) (by decide +kernel)
theorem ml_X9_225 : Cond.methodLink RX9 225 yX5_addPart ∈ lw_tbl := List.mem_of_getElem? (i := 654) (by decide +kernel)
theorem im_X5_addPart : Cond.instanceMethod yX5_addPart ∈ lw_tbl := List.mem_of_getElem? (i := 655) (by decide +kernel)
theorem se_X5_addPart : Cond.selects RX5 yX5_addPart yX5_addPart ∈ lw_tbl := List.mem_of_getElem? (i := 656) (by decide +kernel)
theorem cd_X5_addPart : Cond.code yX5_addPart cX5_addPart 4 (some .int) ∈ lw_tbl := List.mem_of_getElem? (i := 657) (by decide +kernel)
theorem ml_L_138 : Cond.methodLink RL 138 yX9_tell ∈ lw_tbl := List.mem_of_getElem? (i := 658) (by decide +kernel)
theorem im_X9_tell : Cond.instanceMethod yX9_tell ∈ lw_tbl := List.mem_of_getElem? (i := 659) (by decide +kernel)
theorem se_X9_tell : Cond.selects RX9 yX9_tell yX9_tell ∈ lw_tbl := List.mem_of_getElem? (i := 660) (by decide +kernel)
theorem cd_X9_tell : Cond.code yX9_tell cX9_tell 6 (some .int) ∈ lw_tbl := List.mem_of_getElem? (i := 661) (by decide +kernel)
theorem ml_X9_228 : Cond.methodLink RX9 228 yX9_faultOfPart ∈ lw_tbl := List.mem_of_getElem? (i := 662) (by decide +kernel)
theorem im_X9_faultOfPart : Cond.instanceMethod yX9_faultOfPart ∈ lw_tbl := List.mem_of_getElem? (i := 664) (by decide +kernel)
theorem cd_X9_faultOfPart : Cond.code yX9_faultOfPart cX9_faultOfPart 3 (some .int) ∈ lw_tbl := List.mem_of_getElem? (i := 665) (by decide +kernel)
theorem ml_X9_241 : Cond.methodLink RX9 241 yX9_isPart ∈ lw_tbl := List.mem_of_getElem? (i := 666) (by decide +kernel)
theorem im_X9_isPart : Cond.instanceMethod yX9_isPart ∈ lw_tbl := List.mem_of_getElem? (i := 668) (by decide +kernel)
theorem cd_X9_isPart : Cond.code yX9_isPart cX9_isPart 2 (some .boolean) ∈ lw_tbl := List.mem_of_getElem? (i := 669) (by decide +kernel)
theorem ml_L_142 : Cond.methodLink RL 142 yX9_join ∈ lw_tbl := List.mem_of_getElem? (i := 670) (by decide +kernel)
theorem im_X9_join : Cond.instanceMethod yX9_join ∈ lw_tbl := List.mem_of_getElem? (i := 671) (by decide +kernel)
theorem se_X9_join : Cond.selects RX9 yX9_join yX9_join ∈ lw_tbl := List.mem_of_getElem? (i := 672) (by decide +kernel)
theorem cd_X9_join : Cond.code yX9_join cX9_join 6 (some .int) ∈ lw_tbl := List.mem_of_getElem? (i := 673) (by decide +kernel)
theorem ml_X9_247 : Cond.methodLink RX9 247 yX5_addJoin ∈ lw_tbl := List.mem_of_getElem? (i := 674) (by decide +kernel)
theorem im_X5_addJoin : Cond.instanceMethod yX5_addJoin ∈ lw_tbl := List.mem_of_getElem? (i := 675) (by decide +kernel)
theorem se_X5_addJoin : Cond.selects RX5 yX5_addJoin yX5_addJoin ∈ lw_tbl := List.mem_of_getElem? (i := 676) (by decide +kernel)
theorem cd_X5_addJoin : Cond.code yX5_addJoin cX5_addJoin 6 (some .int) ∈ lw_tbl := List.mem_of_getElem? (i := 677) (by decide +kernel)
theorem ml_L_146 : Cond.methodLink RL 146 yX9_stands ∈ lw_tbl := List.mem_of_getElem? (i := 678) (by decide +kernel)
theorem im_X9_stands : Cond.instanceMethod yX9_stands ∈ lw_tbl := List.mem_of_getElem? (i := 679) (by decide +kernel)
theorem se_X9_stands : Cond.selects RX9 yX9_stands yX9_stands ∈ lw_tbl := List.mem_of_getElem? (i := 680) (by decide +kernel)
theorem cd_X9_stands : Cond.code yX9_stands cX9_stands 1 (some .int) ∈ lw_tbl := List.mem_of_getElem? (i := 681) (by decide +kernel)
theorem ml_X9_251 : Cond.methodLink RX9 251 yX5_standsIn ∈ lw_tbl := List.mem_of_getElem? (i := 682) (by decide +kernel)
theorem im_X5_standsIn : Cond.instanceMethod yX5_standsIn ∈ lw_tbl := List.mem_of_getElem? (i := 683) (by decide +kernel)
theorem se_X5_standsIn : Cond.selects RX5 yX5_standsIn yX5_standsIn ∈ lw_tbl := List.mem_of_getElem? (i := 684) (by decide +kernel)
theorem cd_X5_standsIn : Cond.code yX5_standsIn cX5_standsIn 4 (some .boolean) ∈ lw_tbl := List.mem_of_getElem? (i := 685) (by decide +kernel)
theorem ml_X5_65 : Cond.methodLink RX5 65 yX5_findFitting ∈ lw_tbl := List.mem_of_getElem? (i := 686) (by decide +kernel)
theorem im_X5_findFitting : Cond.instanceMethod yX5_findFitting ∈ lw_tbl := List.mem_of_getElem? (i := 687) (by decide +kernel)
theorem se_X5_findFitting : Cond.selects RX5 yX5_findFitting yX5_findFitting ∈ lw_tbl := List.mem_of_getElem? (i := 688) (by decide +kernel)
theorem cd_X5_findFitting : Cond.code yX5_findFitting cX5_findFitting 3 none ∈ lw_tbl := List.mem_of_getElem? (i := 689) (by decide +kernel)
theorem ml_X5_92 : Cond.methodLink RX5 92 yX5_fittingOf ∈ lw_tbl := List.mem_of_getElem? (i := 690) (by decide +kernel)
theorem im_X5_fittingOf : Cond.instanceMethod yX5_fittingOf ∈ lw_tbl := List.mem_of_getElem? (i := 691) (by decide +kernel)
theorem se_X5_fittingOf : Cond.selects RX5 yX5_fittingOf yX5_fittingOf ∈ lw_tbl := List.mem_of_getElem? (i := 692) (by decide +kernel)
theorem cd_X5_fittingOf : Cond.code yX5_fittingOf cX5_fittingOf 5 (some .int) ∈ lw_tbl := List.mem_of_getElem? (i := 693) (by decide +kernel)
theorem mn_X5_96 : Cond.methodLinkNest RX5 96 yX9_isIn RX9 ∈ lw_tbl := List.mem_of_getElem? (i := 694) (by decide +kernel)
theorem ml_X5_107 : Cond.methodLink RX5 107 yX5_hasTold ∈ lw_tbl := List.mem_of_getElem? (i := 695) (by decide +kernel)
theorem im_X5_hasTold : Cond.instanceMethod yX5_hasTold ∈ lw_tbl := List.mem_of_getElem? (i := 696) (by decide +kernel)
theorem se_X5_hasTold : Cond.selects RX5 yX5_hasTold yX5_hasTold ∈ lw_tbl := List.mem_of_getElem? (i := 697) (by decide +kernel)
theorem cd_X5_hasTold : Cond.code yX5_hasTold cX5_hasTold 4 (some .boolean) ∈ lw_tbl := List.mem_of_getElem? (i := 698) (by decide +kernel)
theorem ml_X5_69 : Cond.methodLink RX5 69 yX5_manyTries ∈ lw_tbl := List.mem_of_getElem? (i := 699) (by decide +kernel)
theorem im_X5_manyTries : Cond.instanceMethod yX5_manyTries ∈ lw_tbl := List.mem_of_getElem? (i := 700) (by decide +kernel)
theorem se_X5_manyTries : Cond.selects RX5 yX5_manyTries yX5_manyTries ∈ lw_tbl := List.mem_of_getElem? (i := 701) (by decide +kernel)
theorem cd_X5_manyTries : Cond.code yX5_manyTries cX5_manyTries 3 (some .int) ∈ lw_tbl := List.mem_of_getElem? (i := 702) (by decide +kernel)
theorem ml_X5_73 : Cond.methodLink RX5 73 yX5_stood ∈ lw_tbl := List.mem_of_getElem? (i := 703) (by decide +kernel)
theorem im_X5_stood : Cond.instanceMethod yX5_stood ∈ lw_tbl := List.mem_of_getElem? (i := 704) (by decide +kernel)
theorem se_X5_stood : Cond.selects RX5 yX5_stood yX5_stood ∈ lw_tbl := List.mem_of_getElem? (i := 705) (by decide +kernel)
theorem cd_X5_stood : Cond.code yX5_stood cX5_stood 4 (some .boolean) ∈ lw_tbl := List.mem_of_getElem? (i := 706) (by decide +kernel)
theorem ml_X5_119 : Cond.methodLink RX5 119 yX5_isJoined ∈ lw_tbl := List.mem_of_getElem? (i := 707) (by decide +kernel)
theorem im_X5_isJoined : Cond.instanceMethod yX5_isJoined ∈ lw_tbl := List.mem_of_getElem? (i := 708) (by decide +kernel)
theorem se_X5_isJoined : Cond.selects RX5 yX5_isJoined yX5_isJoined ∈ lw_tbl := List.mem_of_getElem? (i := 709) (by decide +kernel)
theorem cd_X5_isJoined : Cond.code yX5_isJoined cX5_isJoined 4 (some .boolean) ∈ lw_tbl := List.mem_of_getElem? (i := 710) (by decide +kernel)
theorem ml_L_150 : Cond.methodLink RL 150 yX9_often ∈ lw_tbl := List.mem_of_getElem? (i := 711) (by decide +kernel)
theorem im_X9_often : Cond.instanceMethod yX9_often ∈ lw_tbl := List.mem_of_getElem? (i := 712) (by decide +kernel)
theorem se_X9_often : Cond.selects RX9 yX9_often yX9_often ∈ lw_tbl := List.mem_of_getElem? (i := 713) (by decide +kernel)
theorem cd_X9_often : Cond.code yX9_often cX9_often 1 (some .int) ∈ lw_tbl := List.mem_of_getElem? (i := 714) (by decide +kernel)
theorem ml_X9_254 : Cond.methodLink RX9 254 yX9_timesStanding ∈ lw_tbl := List.mem_of_getElem? (i := 715) (by decide +kernel)
theorem im_X9_timesStanding : Cond.instanceMethod yX9_timesStanding ∈ lw_tbl := List.mem_of_getElem? (i := 717) (by decide +kernel)
theorem cd_X9_timesStanding : Cond.code yX9_timesStanding cX9_timesStanding 3 (some .int) ∈ lw_tbl := List.mem_of_getElem? (i := 718) (by decide +kernel)
theorem ml_X9_259 : Cond.methodLink RX9 259 yX5_findStanding ∈ lw_tbl := List.mem_of_getElem? (i := 719) (by decide +kernel)
theorem im_X5_findStanding : Cond.instanceMethod yX5_findStanding ∈ lw_tbl := List.mem_of_getElem? (i := 720) (by decide +kernel)
theorem se_X5_findStanding : Cond.selects RX5 yX5_findStanding yX5_findStanding ∈ lw_tbl := List.mem_of_getElem? (i := 721) (by decide +kernel)
theorem cd_X5_findStanding : Cond.code yX5_findStanding cX5_findStanding 4 none ∈ lw_tbl := List.mem_of_getElem? (i := 722) (by decide +kernel)
theorem mn_X5_82 : Cond.methodLinkNest RX5 82 yX9_unmark RX9 ∈ lw_tbl := List.mem_of_getElem? (i := 723) (by decide +kernel)
theorem ml_X5_86 : Cond.methodLink RX5 86 yX5_triedRows ∈ lw_tbl := List.mem_of_getElem? (i := 724) (by decide +kernel)
theorem im_X5_triedRows : Cond.instanceMethod yX5_triedRows ∈ lw_tbl := List.mem_of_getElem? (i := 725) (by decide +kernel)
theorem se_X5_triedRows : Cond.selects RX5 yX5_triedRows yX5_triedRows ∈ lw_tbl := List.mem_of_getElem? (i := 726) (by decide +kernel)
theorem cd_X5_triedRows : Cond.code yX5_triedRows cX5_triedRows 3 (some .int) ∈ lw_tbl := List.mem_of_getElem? (i := 727) (by decide +kernel)
theorem mn_X5_89 : Cond.methodLinkNest RX5 89 yX9_markWholes RX9 ∈ lw_tbl := List.mem_of_getElem? (i := 728) (by decide +kernel)
theorem ml_L_154 : Cond.methodLink RL 154 yX9_sure ∈ lw_tbl := List.mem_of_getElem? (i := 729) (by decide +kernel)
theorem im_X9_sure : Cond.instanceMethod yX9_sure ∈ lw_tbl := List.mem_of_getElem? (i := 730) (by decide +kernel)
theorem se_X9_sure : Cond.selects RX9 yX9_sure yX9_sure ∈ lw_tbl := List.mem_of_getElem? (i := 731) (by decide +kernel)
theorem cd_X9_sure : Cond.code yX9_sure cX9_sure 2 (some .int) ∈ lw_tbl := List.mem_of_getElem? (i := 732) (by decide +kernel)
theorem ml_L_158 : Cond.methodLink RL 158 yX9_against ∈ lw_tbl := List.mem_of_getElem? (i := 733) (by decide +kernel)
theorem im_X9_against : Cond.instanceMethod yX9_against ∈ lw_tbl := List.mem_of_getElem? (i := 734) (by decide +kernel)
theorem se_X9_against : Cond.selects RX9 yX9_against yX9_against ∈ lw_tbl := List.mem_of_getElem? (i := 735) (by decide +kernel)
theorem cd_X9_against : Cond.code yX9_against cX9_against 2 (some .int) ∈ lw_tbl := List.mem_of_getElem? (i := 736) (by decide +kernel)
theorem ml_L_162 : Cond.methodLink RL 162 yX9_count ∈ lw_tbl := List.mem_of_getElem? (i := 737) (by decide +kernel)
theorem im_X9_count : Cond.instanceMethod yX9_count ∈ lw_tbl := List.mem_of_getElem? (i := 738) (by decide +kernel)
theorem se_X9_count : Cond.selects RX9 yX9_count yX9_count ∈ lw_tbl := List.mem_of_getElem? (i := 739) (by decide +kernel)
theorem cd_X9_count : Cond.code yX9_count cX9_count 2 (some .int) ∈ lw_tbl := List.mem_of_getElem? (i := 740) (by decide +kernel)
theorem ml_X9_268 : Cond.methodLink RX9 268 yX9_manyTables ∈ lw_tbl := List.mem_of_getElem? (i := 741) (by decide +kernel)
theorem im_X9_manyTables : Cond.instanceMethod yX9_manyTables ∈ lw_tbl := List.mem_of_getElem? (i := 743) (by decide +kernel)
theorem cd_X9_manyTables : Cond.code yX9_manyTables cX9_manyTables 3 (some .int) ∈ lw_tbl := List.mem_of_getElem? (i := 744) (by decide +kernel)
theorem cl_L_10 : Cond.classLink RL 10 RX10 ∈ lw_tbl := List.mem_of_getElem? (i := 745) (by decide +kernel)
theorem in_X10 : Cond.instantiable RX10 36 ∈ lw_tbl := List.mem_of_getElem? (i := 746) (by decide +kernel)
theorem ml_L_12 : Cond.methodLink RL 12 yX10_init ∈ lw_tbl := List.mem_of_getElem? (i := 747) (by decide +kernel)
theorem im_X10_init : Cond.instanceMethod yX10_init ∈ lw_tbl := List.mem_of_getElem? (i := 748) (by decide +kernel)
theorem cd_X10_init : Cond.code yX10_init cX10_init 1 none ∈ lw_tbl := List.mem_of_getElem? (i := 749) (by decide +kernel)
theorem ml_X10_1 : Cond.methodLink RX10 1 Lib.objectInit ∈ lw_tbl := List.mem_of_getElem? (i := 750) (by decide +kernel)
theorem fl_X10_93 : Cond.fieldLink RX10 93 "CleaningBenchModel" "thrown" "I" ∈ lw_tbl := List.mem_of_getElem? (i := 751) (by decide +kernel)
theorem fl_X10_7 : Cond.fieldLink RX10 7 "CleaningBenchModel" "columns" "[I" ∈ lw_tbl := List.mem_of_getElem? (i := 752) (by decide +kernel)
theorem fl_X10_13 : Cond.fieldLink RX10 13 "CleaningBenchModel" "laneOf" "[I" ∈ lw_tbl := List.mem_of_getElem? (i := 753) (by decide +kernel)
theorem fl_X10_106 : Cond.fieldLink RX10 106 "CleaningBenchModel" "rows" "I" ∈ lw_tbl := List.mem_of_getElem? (i := 754) (by decide +kernel)
theorem fl_X10_16 : Cond.fieldLink RX10 16 "CleaningBenchModel" "tableOf" "[I" ∈ lw_tbl := List.mem_of_getElem? (i := 755) (by decide +kernel)
theorem fl_X10_19 : Cond.fieldLink RX10 19 "CleaningBenchModel" "trustOf" "[I" ∈ lw_tbl := List.mem_of_getElem? (i := 756) (by decide +kernel)
theorem fl_X10_22 : Cond.fieldLink RX10 22 "CleaningBenchModel" "isKept" "[Z" ∈ lw_tbl := List.mem_of_getElem? (i := 757) (by decide +kernel)
theorem fl_X10_26 : Cond.fieldLink RX10 26 "CleaningBenchModel" "isThere" "[Z" ∈ lw_tbl := List.mem_of_getElem? (i := 758) (by decide +kernel)
theorem fl_X10_29 : Cond.fieldLink RX10 29 "CleaningBenchModel" "told" "[J" ∈ lw_tbl := List.mem_of_getElem? (i := 759) (by decide +kernel)
theorem fl_X10_109 : Cond.fieldLink RX10 109 "CleaningBenchModel" "laws" "I" ∈ lw_tbl := List.mem_of_getElem? (i := 760) (by decide +kernel)
theorem fl_X10_33 : Cond.fieldLink RX10 33 "CleaningBenchModel" "kind" "[I" ∈ lw_tbl := List.mem_of_getElem? (i := 761) (by decide +kernel)
theorem fl_X10_36 : Cond.fieldLink RX10 36 "CleaningBenchModel" "lawTable" "[I" ∈ lw_tbl := List.mem_of_getElem? (i := 762) (by decide +kernel)
theorem fl_X10_39 : Cond.fieldLink RX10 39 "CleaningBenchModel" "colA" "[I" ∈ lw_tbl := List.mem_of_getElem? (i := 763) (by decide +kernel)
theorem fl_X10_42 : Cond.fieldLink RX10 42 "CleaningBenchModel" "colB" "[I" ∈ lw_tbl := List.mem_of_getElem? (i := 764) (by decide +kernel)
theorem fl_X10_45 : Cond.fieldLink RX10 45 "CleaningBenchModel" "lawOther" "[I" ∈ lw_tbl := List.mem_of_getElem? (i := 765) (by decide +kernel)
theorem fl_X10_48 : Cond.fieldLink RX10 48 "CleaningBenchModel" "numC" "[J" ∈ lw_tbl := List.mem_of_getElem? (i := 766) (by decide +kernel)
theorem fl_X10_51 : Cond.fieldLink RX10 51 "CleaningBenchModel" "numD" "[J" ∈ lw_tbl := List.mem_of_getElem? (i := 767) (by decide +kernel)
theorem fl_X10_54 : Cond.fieldLink RX10 54 "CleaningBenchModel" "isInForce" "[Z" ∈ lw_tbl := List.mem_of_getElem? (i := 768) (by decide +kernel)
theorem fl_X10_97 : Cond.fieldLink RX10 97 "CleaningBenchModel" "findings" "I" ∈ lw_tbl := List.mem_of_getElem? (i := 769) (by decide +kernel)
theorem fl_X10_209 : Cond.fieldLink RX10 209 "CleaningBenchModel" "parts" "I" ∈ lw_tbl := List.mem_of_getElem? (i := 770) (by decide +kernel)
theorem fl_X10_57 : Cond.fieldLink RX10 57 "CleaningBenchModel" "partTable" "[I" ∈ lw_tbl := List.mem_of_getElem? (i := 771) (by decide +kernel)
theorem fl_X10_60 : Cond.fieldLink RX10 60 "CleaningBenchModel" "isTold" "[Z" ∈ lw_tbl := List.mem_of_getElem? (i := 772) (by decide +kernel)
theorem fl_X10_63 : Cond.fieldLink RX10 63 "CleaningBenchModel" "tellOf" "[J" ∈ lw_tbl := List.mem_of_getElem? (i := 773) (by decide +kernel)
theorem fl_X10_212 : Cond.fieldLink RX10 212 "CleaningBenchModel" "joins" "I" ∈ lw_tbl := List.mem_of_getElem? (i := 774) (by decide +kernel)
theorem fl_X10_66 : Cond.fieldLink RX10 66 "CleaningBenchModel" "joinP" "[I" ∈ lw_tbl := List.mem_of_getElem? (i := 775) (by decide +kernel)
theorem fl_X10_69 : Cond.fieldLink RX10 69 "CleaningBenchModel" "joinC" "[I" ∈ lw_tbl := List.mem_of_getElem? (i := 776) (by decide +kernel)
theorem fl_X10_72 : Cond.fieldLink RX10 72 "CleaningBenchModel" "joinQ" "[I" ∈ lw_tbl := List.mem_of_getElem? (i := 777) (by decide +kernel)
theorem fl_X10_75 : Cond.fieldLink RX10 75 "CleaningBenchModel" "joinD" "[I" ∈ lw_tbl := List.mem_of_getElem? (i := 778) (by decide +kernel)
theorem fl_X10_121 : Cond.fieldLink RX10 121 "CleaningBenchModel" "isKnown" "Z" ∈ lw_tbl := List.mem_of_getElem? (i := 779) (by decide +kernel)
theorem fl_X10_193 : Cond.fieldLink RX10 193 "CleaningBenchModel" "many" "I" ∈ lw_tbl := List.mem_of_getElem? (i := 780) (by decide +kernel)
theorem fl_X10_78 : Cond.fieldLink RX10 78 "CleaningBenchModel" "leastOf" "[I" ∈ lw_tbl := List.mem_of_getElem? (i := 781) (by decide +kernel)
theorem fl_X10_81 : Cond.fieldLink RX10 81 "CleaningBenchModel" "mendsBy" "[Z" ∈ lw_tbl := List.mem_of_getElem? (i := 782) (by decide +kernel)
theorem fl_X10_174 : Cond.fieldLink RX10 174 "CleaningBenchModel" "quarrelsFound" "I" ∈ lw_tbl := List.mem_of_getElem? (i := 783) (by decide +kernel)
theorem fl_X10_84 : Cond.fieldLink RX10 84 "CleaningBenchModel" "quarrelOf" "[I" ∈ lw_tbl := List.mem_of_getElem? (i := 784) (by decide +kernel)
theorem fl_X10_87 : Cond.fieldLink RX10 87 "CleaningBenchModel" "become" "[J" ∈ lw_tbl := List.mem_of_getElem? (i := 785) (by decide +kernel)
theorem fl_X10_90 : Cond.fieldLink RX10 90 "CleaningBenchModel" "rowOf" "[I" ∈ lw_tbl := List.mem_of_getElem? (i := 786) (by decide +kernel)
theorem ml_L_17 : Cond.methodLink RL 17 yX10_table ∈ lw_tbl := List.mem_of_getElem? (i := 860) (by decide +kernel)
theorem im_X10_table : Cond.instanceMethod yX10_table ∈ lw_tbl := List.mem_of_getElem? (i := 861) (by decide +kernel)
theorem se_X10_table : Cond.selects RX10 yX10_table yX10_table ∈ lw_tbl := List.mem_of_getElem? (i := 862) (by decide +kernel)
theorem cd_X10_table : Cond.code yX10_table cX10_table 7 (some .int) ∈ lw_tbl := List.mem_of_getElem? (i := 863) (by decide +kernel)
theorem co_X10_100 : Cond.constantLong RX10 100 3 ∈ lw_tbl := List.mem_of_getElem? (i := 864) (by decide +kernel)
theorem ml_X10_102 : Cond.methodLink RX10 102 yX10_in ∈ lw_tbl := List.mem_of_getElem? (i := 865) (by decide +kernel)
theorem st_X10_in : Cond.static yX10_in ∈ lw_tbl := List.mem_of_getElem? (i := 866) (by decide +kernel)
theorem cd_X10_in : Cond.code yX10_in cX10_in 6 (some .boolean) ∈ lw_tbl := List.mem_of_getElem? (i := 867) (by decide +kernel)
theorem ml_X10_112 : Cond.methodLink RX10 112 yX10_finds ∈ lw_tbl := List.mem_of_getElem? (i := 868) (by decide +kernel)
theorem im_X10_finds : Cond.instanceMethod yX10_finds ∈ lw_tbl := List.mem_of_getElem? (i := 870) (by decide +kernel)
theorem cd_X10_finds : Cond.code yX10_finds cX10_finds 2 (some .int) ∈ lw_tbl := List.mem_of_getElem? (i := 871) (by decide +kernel)
theorem ml_L_22 : Cond.methodLink RL 22 yX10_row ∈ lw_tbl := List.mem_of_getElem? (i := 872) (by decide +kernel)
theorem im_X10_row : Cond.instanceMethod yX10_row ∈ lw_tbl := List.mem_of_getElem? (i := 873) (by decide +kernel)
theorem se_X10_row : Cond.selects RX10 yX10_row yX10_row ∈ lw_tbl := List.mem_of_getElem? (i := 874) (by decide +kernel)
theorem cd_X10_row : Cond.code yX10_row cX10_row 3 (some .int) ∈ lw_tbl := List.mem_of_getElem? (i := 875) (by decide +kernel)
theorem ml_X10_116 : Cond.methodLink RX10 116 yX10_lack ∈ lw_tbl := List.mem_of_getElem? (i := 876) (by decide +kernel)
theorem im_X10_lack : Cond.instanceMethod yX10_lack ∈ lw_tbl := List.mem_of_getElem? (i := 878) (by decide +kernel)
theorem cd_X10_lack : Cond.code yX10_lack cX10_lack 2 (some .int) ∈ lw_tbl := List.mem_of_getElem? (i := 879) (by decide +kernel)
theorem co_X10_119 : Cond.constantLong RX10 119 100 ∈ lw_tbl := List.mem_of_getElem? (i := 880) (by decide +kernel)
theorem ml_L_29 : Cond.methodLink RL 29 yX10_put ∈ lw_tbl := List.mem_of_getElem? (i := 881) (by decide +kernel)
theorem im_X10_put : Cond.instanceMethod yX10_put ∈ lw_tbl := List.mem_of_getElem? (i := 882) (by decide +kernel)
theorem se_X10_put : Cond.selects RX10 yX10_put yX10_put ∈ lw_tbl := List.mem_of_getElem? (i := 883) (by decide +kernel)
theorem cd_X10_put : Cond.code yX10_put cX10_put 5 (some .int) ∈ lw_tbl := List.mem_of_getElem? (i := 884) (by decide +kernel)
theorem ml_X10_125 : Cond.methodLink RX10 125 yX10_noRow ∈ lw_tbl := List.mem_of_getElem? (i := 885) (by decide +kernel)
theorem im_X10_noRow : Cond.instanceMethod yX10_noRow ∈ lw_tbl := List.mem_of_getElem? (i := 887) (by decide +kernel)
theorem cd_X10_noRow : Cond.code yX10_noRow cX10_noRow 2 (some .boolean) ∈ lw_tbl := List.mem_of_getElem? (i := 888) (by decide +kernel)
theorem ml_X10_129 : Cond.methodLink RX10 129 yX10_noColumn ∈ lw_tbl := List.mem_of_getElem? (i := 889) (by decide +kernel)
theorem im_X10_noColumn : Cond.instanceMethod yX10_noColumn ∈ lw_tbl := List.mem_of_getElem? (i := 891) (by decide +kernel)
theorem cd_X10_noColumn : Cond.code yX10_noColumn cX10_noColumn 3 (some .boolean) ∈ lw_tbl := List.mem_of_getElem? (i := 892) (by decide +kernel)
theorem ml_X10_133 : Cond.methodLink RX10 133 yX10_lies ∈ lw_tbl := List.mem_of_getElem? (i := 893) (by decide +kernel)
theorem st_X10_lies : Cond.static yX10_lies ∈ lw_tbl := List.mem_of_getElem? (i := 894) (by decide +kernel)
theorem cd_X10_lies : Cond.code yX10_lies cX10_lies 3 (some .long) ∈ lw_tbl := List.mem_of_getElem? (i := 895) (by decide +kernel)
theorem ml_L_33 : Cond.methodLink RL 33 yX10_miss ∈ lw_tbl := List.mem_of_getElem? (i := 896) (by decide +kernel)
theorem im_X10_miss : Cond.instanceMethod yX10_miss ∈ lw_tbl := List.mem_of_getElem? (i := 897) (by decide +kernel)
theorem se_X10_miss : Cond.selects RX10 yX10_miss yX10_miss ∈ lw_tbl := List.mem_of_getElem? (i := 898) (by decide +kernel)
theorem cd_X10_miss : Cond.code yX10_miss cX10_miss 4 (some .int) ∈ lw_tbl := List.mem_of_getElem? (i := 899) (by decide +kernel)
theorem ml_L_37 : Cond.methodLink RL 37 yX10_has ∈ lw_tbl := List.mem_of_getElem? (i := 900) (by decide +kernel)
theorem im_X10_has : Cond.instanceMethod yX10_has ∈ lw_tbl := List.mem_of_getElem? (i := 901) (by decide +kernel)
theorem se_X10_has : Cond.selects RX10 yX10_has yX10_has ∈ lw_tbl := List.mem_of_getElem? (i := 902) (by decide +kernel)
theorem cd_X10_has : Cond.code yX10_has cX10_has 3 (some .int) ∈ lw_tbl := List.mem_of_getElem? (i := 903) (by decide +kernel)
theorem ml_L_42 : Cond.methodLink RL 42 yX10_cell ∈ lw_tbl := List.mem_of_getElem? (i := 904) (by decide +kernel)
theorem im_X10_cell : Cond.instanceMethod yX10_cell ∈ lw_tbl := List.mem_of_getElem? (i := 905) (by decide +kernel)
theorem se_X10_cell : Cond.selects RX10 yX10_cell yX10_cell ∈ lw_tbl := List.mem_of_getElem? (i := 906) (by decide +kernel)
theorem cd_X10_cell : Cond.code yX10_cell cX10_cell 3 (some .long) ∈ lw_tbl := List.mem_of_getElem? (i := 907) (by decide +kernel)
theorem co_X10_137 : Cond.constantLong RX10 137 (-1) ∈ lw_tbl := List.mem_of_getElem? (i := 908) (by decide +kernel)
theorem ml_L_46 : Cond.methodLink RL 46 yX10_column ∈ lw_tbl := List.mem_of_getElem? (i := 909) (by decide +kernel)
theorem im_X10_column : Cond.instanceMethod yX10_column ∈ lw_tbl := List.mem_of_getElem? (i := 910) (by decide +kernel)
theorem se_X10_column : Cond.selects RX10 yX10_column yX10_column ∈ lw_tbl := List.mem_of_getElem? (i := 911) (by decide +kernel)
theorem cd_X10_column : Cond.code yX10_column cX10_column 6 (some .int) ∈ lw_tbl := List.mem_of_getElem? (i := 912) (by decide +kernel)
theorem co_X10_139 : Cond.constantLong RX10 139 5 ∈ lw_tbl := List.mem_of_getElem? (i := 913) (by decide +kernel)
theorem ml_L_50 : Cond.methodLink RL 50 yX10_trust ∈ lw_tbl := List.mem_of_getElem? (i := 914) (by decide +kernel)
theorem im_X10_trust : Cond.instanceMethod yX10_trust ∈ lw_tbl := List.mem_of_getElem? (i := 915) (by decide +kernel)
theorem se_X10_trust : Cond.selects RX10 yX10_trust yX10_trust ∈ lw_tbl := List.mem_of_getElem? (i := 916) (by decide +kernel)
theorem cd_X10_trust : Cond.code yX10_trust cX10_trust 4 (some .int) ∈ lw_tbl := List.mem_of_getElem? (i := 917) (by decide +kernel)
theorem ml_L_55 : Cond.methodLink RL 55 yX10_keep ∈ lw_tbl := List.mem_of_getElem? (i := 918) (by decide +kernel)
theorem im_X10_keep : Cond.instanceMethod yX10_keep ∈ lw_tbl := List.mem_of_getElem? (i := 919) (by decide +kernel)
theorem se_X10_keep : Cond.selects RX10 yX10_keep yX10_keep ∈ lw_tbl := List.mem_of_getElem? (i := 920) (by decide +kernel)
theorem cd_X10_keep : Cond.code yX10_keep cX10_keep 4 (some .int) ∈ lw_tbl := List.mem_of_getElem? (i := 921) (by decide +kernel)
theorem ml_L_59 : Cond.methodLink RL 59 yX10_about ∈ lw_tbl := List.mem_of_getElem? (i := 922) (by decide +kernel)
theorem im_X10_about : Cond.instanceMethod yX10_about ∈ lw_tbl := List.mem_of_getElem? (i := 923) (by decide +kernel)
theorem se_X10_about : Cond.selects RX10 yX10_about yX10_about ∈ lw_tbl := List.mem_of_getElem? (i := 924) (by decide +kernel)
theorem cd_X10_about : Cond.code yX10_about cX10_about 3 (some .int) ∈ lw_tbl := List.mem_of_getElem? (i := 925) (by decide +kernel)
theorem ml_L_64 : Cond.methodLink RL 64 yX10_law ∈ lw_tbl := List.mem_of_getElem? (i := 926) (by decide +kernel)
theorem im_X10_law : Cond.instanceMethod yX10_law ∈ lw_tbl := List.mem_of_getElem? (i := 927) (by decide +kernel)
theorem se_X10_law : Cond.selects RX10 yX10_law yX10_law ∈ lw_tbl := List.mem_of_getElem? (i := 928) (by decide +kernel)
theorem cd_X10_law : Cond.code yX10_law cX10_law 9 (some .int) ∈ lw_tbl := List.mem_of_getElem? (i := 929) (by decide +kernel)
theorem co_X10_141 : Cond.constantLong RX10 141 4 ∈ lw_tbl := List.mem_of_getElem? (i := 930) (by decide +kernel)
theorem ml_X10_143 : Cond.methodLink RX10 143 yX10_add ∈ lw_tbl := List.mem_of_getElem? (i := 931) (by decide +kernel)
theorem im_X10_add : Cond.instanceMethod yX10_add ∈ lw_tbl := List.mem_of_getElem? (i := 933) (by decide +kernel)
theorem cd_X10_add : Cond.code yX10_add cX10_add 10 (some .int) ∈ lw_tbl := List.mem_of_getElem? (i := 934) (by decide +kernel)
theorem ml_L_69 : Cond.methodLink RL 69 yX10_among ∈ lw_tbl := List.mem_of_getElem? (i := 935) (by decide +kernel)
theorem im_X10_among : Cond.instanceMethod yX10_among ∈ lw_tbl := List.mem_of_getElem? (i := 936) (by decide +kernel)
theorem se_X10_among : Cond.selects RX10 yX10_among yX10_among ∈ lw_tbl := List.mem_of_getElem? (i := 937) (by decide +kernel)
theorem cd_X10_among : Cond.code yX10_among cX10_among 5 (some .int) ∈ lw_tbl := List.mem_of_getElem? (i := 938) (by decide +kernel)
theorem ml_L_73 : Cond.methodLink RL 73 yX10_force ∈ lw_tbl := List.mem_of_getElem? (i := 939) (by decide +kernel)
theorem im_X10_force : Cond.instanceMethod yX10_force ∈ lw_tbl := List.mem_of_getElem? (i := 940) (by decide +kernel)
theorem se_X10_force : Cond.selects RX10 yX10_force yX10_force ∈ lw_tbl := List.mem_of_getElem? (i := 941) (by decide +kernel)
theorem cd_X10_force : Cond.code yX10_force cX10_force 4 (some .int) ∈ lw_tbl := List.mem_of_getElem? (i := 942) (by decide +kernel)
theorem ml_X10_147 : Cond.methodLink RX10 147 yX10_noLaw ∈ lw_tbl := List.mem_of_getElem? (i := 943) (by decide +kernel)
theorem im_X10_noLaw : Cond.instanceMethod yX10_noLaw ∈ lw_tbl := List.mem_of_getElem? (i := 945) (by decide +kernel)
theorem cd_X10_noLaw : Cond.code yX10_noLaw cX10_noLaw 2 (some .boolean) ∈ lw_tbl := List.mem_of_getElem? (i := 946) (by decide +kernel)
theorem ml_L_78 : Cond.methodLink RL 78 yX10_most ∈ lw_tbl := List.mem_of_getElem? (i := 947) (by decide +kernel)
theorem im_X10_most : Cond.instanceMethod yX10_most ∈ lw_tbl := List.mem_of_getElem? (i := 948) (by decide +kernel)
theorem se_X10_most : Cond.selects RX10 yX10_most yX10_most ∈ lw_tbl := List.mem_of_getElem? (i := 949) (by decide +kernel)
theorem cd_X10_most : Cond.code yX10_most cX10_most 2 (some .long) ∈ lw_tbl := List.mem_of_getElem? (i := 950) (by decide +kernel)
theorem ml_L_83 : Cond.methodLink RL 83 yX10_quarrels ∈ lw_tbl := List.mem_of_getElem? (i := 951) (by decide +kernel)
theorem im_X10_quarrels : Cond.instanceMethod yX10_quarrels ∈ lw_tbl := List.mem_of_getElem? (i := 952) (by decide +kernel)
theorem se_X10_quarrels : Cond.selects RX10 yX10_quarrels yX10_quarrels ∈ lw_tbl := List.mem_of_getElem? (i := 953) (by decide +kernel)
theorem cd_X10_quarrels : Cond.code yX10_quarrels cX10_quarrels 2 (some .int) ∈ lw_tbl := List.mem_of_getElem? (i := 954) (by decide +kernel)
theorem ml_X10_186 : Cond.methodLink RX10 186 yX10_findQuarrels ∈ lw_tbl := List.mem_of_getElem? (i := 955) (by decide +kernel)
theorem im_X10_findQuarrels : Cond.instanceMethod yX10_findQuarrels ∈ lw_tbl := List.mem_of_getElem? (i := 957) (by decide +kernel)
theorem cd_X10_findQuarrels : Cond.code yX10_findQuarrels cX10_findQuarrels 7 none ∈ lw_tbl := List.mem_of_getElem? (i := 958) (by decide +kernel)
theorem ml_X10_170 : Cond.methodLink RX10 170 yX10_keptSet ∈ lw_tbl := List.mem_of_getElem? (i := 959) (by decide +kernel)
theorem im_X10_keptSet : Cond.instanceMethod yX10_keptSet ∈ lw_tbl := List.mem_of_getElem? (i := 961) (by decide +kernel)
theorem cd_X10_keptSet : Cond.code yX10_keptSet cX10_keptSet 3 (some .int) ∈ lw_tbl := List.mem_of_getElem? (i := 962) (by decide +kernel)
theorem ml_X10_177 : Cond.methodLink RX10 177 yX10_bitsOf ∈ lw_tbl := List.mem_of_getElem? (i := 963) (by decide +kernel)
theorem st_X10_bitsOf : Cond.static yX10_bitsOf ∈ lw_tbl := List.mem_of_getElem? (i := 964) (by decide +kernel)
theorem cd_X10_bitsOf : Cond.code yX10_bitsOf cX10_bitsOf 3 (some .int) ∈ lw_tbl := List.mem_of_getElem? (i := 965) (by decide +kernel)
theorem ml_X10_180 : Cond.methodLink RX10 180 yX10_isLeastSum ∈ lw_tbl := List.mem_of_getElem? (i := 966) (by decide +kernel)
theorem im_X10_isLeastSum : Cond.instanceMethod yX10_isLeastSum ∈ lw_tbl := List.mem_of_getElem? (i := 968) (by decide +kernel)
theorem cd_X10_isLeastSum : Cond.code yX10_isLeastSum cX10_isLeastSum 5 (some .boolean) ∈ lw_tbl := List.mem_of_getElem? (i := 969) (by decide +kernel)
theorem ml_X10_154 : Cond.methodLink RX10 154 yX10_isOf ∈ lw_tbl := List.mem_of_getElem? (i := 970) (by decide +kernel)
theorem im_X10_isOf : Cond.instanceMethod yX10_isOf ∈ lw_tbl := List.mem_of_getElem? (i := 972) (by decide +kernel)
theorem cd_X10_isOf : Cond.code yX10_isOf cX10_isOf 4 (some .boolean) ∈ lw_tbl := List.mem_of_getElem? (i := 973) (by decide +kernel)
theorem ml_X10_158 : Cond.methodLink RX10 158 yX10_counts ∈ lw_tbl := List.mem_of_getElem? (i := 974) (by decide +kernel)
theorem im_X10_counts : Cond.instanceMethod yX10_counts ∈ lw_tbl := List.mem_of_getElem? (i := 976) (by decide +kernel)
theorem cd_X10_counts : Cond.code yX10_counts cX10_counts 3 (some .boolean) ∈ lw_tbl := List.mem_of_getElem? (i := 977) (by decide +kernel)
theorem ml_X10_150 : Cond.methodLink RX10 150 yX10_isLike ∈ lw_tbl := List.mem_of_getElem? (i := 978) (by decide +kernel)
theorem im_X10_isLike : Cond.instanceMethod yX10_isLike ∈ lw_tbl := List.mem_of_getElem? (i := 980) (by decide +kernel)
theorem cd_X10_isLike : Cond.code yX10_isLike cX10_isLike 5 (some .boolean) ∈ lw_tbl := List.mem_of_getElem? (i := 981) (by decide +kernel)
theorem ml_X10_161 : Cond.methodLink RX10 161 yX10_isMore ∈ lw_tbl := List.mem_of_getElem? (i := 982) (by decide +kernel)
theorem im_X10_isMore : Cond.instanceMethod yX10_isMore ∈ lw_tbl := List.mem_of_getElem? (i := 984) (by decide +kernel)
theorem cd_X10_isMore : Cond.code yX10_isMore cX10_isMore 8 (some .boolean) ∈ lw_tbl := List.mem_of_getElem? (i := 985) (by decide +kernel)
theorem ml_X10_183 : Cond.methodLink RX10 183 yX10_breaksLaw ∈ lw_tbl := List.mem_of_getElem? (i := 986) (by decide +kernel)
theorem im_X10_breaksLaw : Cond.instanceMethod yX10_breaksLaw ∈ lw_tbl := List.mem_of_getElem? (i := 988) (by decide +kernel)
theorem cd_X10_breaksLaw : Cond.code yX10_breaksLaw cX10_breaksLaw 5 (some .boolean) ∈ lw_tbl := List.mem_of_getElem? (i := 989) (by decide +kernel)
theorem ml_X10_164 : Cond.methodLink RX10 164 yX10_breakOne ∈ lw_tbl := List.mem_of_getElem? (i := 990) (by decide +kernel)
theorem im_X10_breakOne : Cond.instanceMethod yX10_breakOne ∈ lw_tbl := List.mem_of_getElem? (i := 992) (by decide +kernel)
theorem cd_X10_breakOne : Cond.code yX10_breakOne cX10_breakOne 7 (some .boolean) ∈ lw_tbl := List.mem_of_getElem? (i := 993) (by decide +kernel)
theorem ml_X10_167 : Cond.methodLink RX10 167 yX10_breakTwo ∈ lw_tbl := List.mem_of_getElem? (i := 994) (by decide +kernel)
theorem im_X10_breakTwo : Cond.instanceMethod yX10_breakTwo ∈ lw_tbl := List.mem_of_getElem? (i := 996) (by decide +kernel)
theorem cd_X10_breakTwo : Cond.code yX10_breakTwo cX10_breakTwo 12 (some .boolean) ∈ lw_tbl := List.mem_of_getElem? (i := 997) (by decide +kernel)
theorem ml_L_87 : Cond.methodLink RL 87 yX10_quarrel ∈ lw_tbl := List.mem_of_getElem? (i := 998) (by decide +kernel)
theorem im_X10_quarrel : Cond.instanceMethod yX10_quarrel ∈ lw_tbl := List.mem_of_getElem? (i := 999) (by decide +kernel)
theorem se_X10_quarrel : Cond.selects RX10 yX10_quarrel yX10_quarrel ∈ lw_tbl := List.mem_of_getElem? (i := 1000) (by decide +kernel)
theorem cd_X10_quarrel : Cond.code yX10_quarrel cX10_quarrel 3 (some .int) ∈ lw_tbl := List.mem_of_getElem? (i := 1001) (by decide +kernel)
theorem ml_L_92 : Cond.methodLink RL 92 yX10_clean ∈ lw_tbl := List.mem_of_getElem? (i := 1002) (by decide +kernel)
theorem im_X10_clean : Cond.instanceMethod yX10_clean ∈ lw_tbl := List.mem_of_getElem? (i := 1003) (by decide +kernel)
theorem se_X10_clean : Cond.selects RX10 yX10_clean yX10_clean ∈ lw_tbl := List.mem_of_getElem? (i := 1004) (by decide +kernel)
theorem cd_X10_clean : Cond.code yX10_clean cX10_clean 1 (some .int) ∈ lw_tbl := List.mem_of_getElem? (i := 1005) (by decide +kernel)
theorem ml_X10_190 : Cond.methodLink RX10 190 yX10_firstBroken ∈ lw_tbl := List.mem_of_getElem? (i := 1006) (by decide +kernel)
theorem im_X10_firstBroken : Cond.instanceMethod yX10_firstBroken ∈ lw_tbl := List.mem_of_getElem? (i := 1008) (by decide +kernel)
theorem cd_X10_firstBroken : Cond.code yX10_firstBroken cX10_firstBroken 3 (some .int) ∈ lw_tbl := List.mem_of_getElem? (i := 1009) (by decide +kernel)
theorem ml_L_96 : Cond.methodLink RL 96 yX10_breaks ∈ lw_tbl := List.mem_of_getElem? (i := 1010) (by decide +kernel)
theorem im_X10_breaks : Cond.instanceMethod yX10_breaks ∈ lw_tbl := List.mem_of_getElem? (i := 1011) (by decide +kernel)
theorem se_X10_breaks : Cond.selects RX10 yX10_breaks yX10_breaks ∈ lw_tbl := List.mem_of_getElem? (i := 1012) (by decide +kernel)
theorem cd_X10_breaks : Cond.code yX10_breaks cX10_breaks 2 (some .int) ∈ lw_tbl := List.mem_of_getElem? (i := 1013) (by decide +kernel)
theorem ml_L_100 : Cond.methodLink RL 100 yX10_mends ∈ lw_tbl := List.mem_of_getElem? (i := 1014) (by decide +kernel)
theorem im_X10_mends : Cond.instanceMethod yX10_mends ∈ lw_tbl := List.mem_of_getElem? (i := 1015) (by decide +kernel)
theorem se_X10_mends : Cond.selects RX10 yX10_mends yX10_mends ∈ lw_tbl := List.mem_of_getElem? (i := 1016) (by decide +kernel)
theorem cd_X10_mends : Cond.code yX10_mends cX10_mends 1 (some .int) ∈ lw_tbl := List.mem_of_getElem? (i := 1017) (by decide +kernel)
theorem ml_X10_196 : Cond.methodLink RX10 196 yX10_know ∈ lw_tbl := List.mem_of_getElem? (i := 1018) (by decide +kernel)
theorem im_X10_know : Cond.instanceMethod yX10_know ∈ lw_tbl := List.mem_of_getElem? (i := 1020) (by decide +kernel)
theorem cd_X10_know : Cond.code yX10_know cX10_know 5 none ∈ lw_tbl := List.mem_of_getElem? (i := 1021) (by decide +kernel)
theorem ml_L_104 : Cond.methodLink RL 104 yX10_mending ∈ lw_tbl := List.mem_of_getElem? (i := 1022) (by decide +kernel)
theorem im_X10_mending : Cond.instanceMethod yX10_mending ∈ lw_tbl := List.mem_of_getElem? (i := 1023) (by decide +kernel)
theorem se_X10_mending : Cond.selects RX10 yX10_mending yX10_mending ∈ lw_tbl := List.mem_of_getElem? (i := 1024) (by decide +kernel)
theorem cd_X10_mending : Cond.code yX10_mending cX10_mending 2 (some .int) ∈ lw_tbl := List.mem_of_getElem? (i := 1025) (by decide +kernel)
theorem ml_L_108 : Cond.methodLink RL 108 yX10_price ∈ lw_tbl := List.mem_of_getElem? (i := 1026) (by decide +kernel)
theorem im_X10_price : Cond.instanceMethod yX10_price ∈ lw_tbl := List.mem_of_getElem? (i := 1027) (by decide +kernel)
theorem se_X10_price : Cond.selects RX10 yX10_price yX10_price ∈ lw_tbl := List.mem_of_getElem? (i := 1028) (by decide +kernel)
theorem cd_X10_price : Cond.code yX10_price cX10_price 1 (some .int) ∈ lw_tbl := List.mem_of_getElem? (i := 1029) (by decide +kernel)
theorem ml_X10_202 : Cond.methodLink RX10 202 yX10_bestOf ∈ lw_tbl := List.mem_of_getElem? (i := 1030) (by decide +kernel)
theorem im_X10_bestOf : Cond.instanceMethod yX10_bestOf ∈ lw_tbl := List.mem_of_getElem? (i := 1032) (by decide +kernel)
theorem cd_X10_bestOf : Cond.code yX10_bestOf cX10_bestOf 3 (some .int) ∈ lw_tbl := List.mem_of_getElem? (i := 1033) (by decide +kernel)
theorem ml_X10_199 : Cond.methodLink RX10 199 yX10_priceOf ∈ lw_tbl := List.mem_of_getElem? (i := 1034) (by decide +kernel)
theorem im_X10_priceOf : Cond.instanceMethod yX10_priceOf ∈ lw_tbl := List.mem_of_getElem? (i := 1036) (by decide +kernel)
theorem cd_X10_priceOf : Cond.code yX10_priceOf cX10_priceOf 4 (some .int) ∈ lw_tbl := List.mem_of_getElem? (i := 1037) (by decide +kernel)
theorem ml_L_112 : Cond.methodLink RL 112 yX10_best ∈ lw_tbl := List.mem_of_getElem? (i := 1038) (by decide +kernel)
theorem im_X10_best : Cond.instanceMethod yX10_best ∈ lw_tbl := List.mem_of_getElem? (i := 1039) (by decide +kernel)
theorem se_X10_best : Cond.selects RX10 yX10_best yX10_best ∈ lw_tbl := List.mem_of_getElem? (i := 1040) (by decide +kernel)
theorem cd_X10_best : Cond.code yX10_best cX10_best 1 (some .int) ∈ lw_tbl := List.mem_of_getElem? (i := 1041) (by decide +kernel)
theorem ml_L_116 : Cond.methodLink RL 116 yX10_blame ∈ lw_tbl := List.mem_of_getElem? (i := 1042) (by decide +kernel)
theorem im_X10_blame : Cond.instanceMethod yX10_blame ∈ lw_tbl := List.mem_of_getElem? (i := 1043) (by decide +kernel)
theorem se_X10_blame : Cond.selects RX10 yX10_blame yX10_blame ∈ lw_tbl := List.mem_of_getElem? (i := 1044) (by decide +kernel)
theorem cd_X10_blame : Cond.code yX10_blame cX10_blame 4 (some .int) ∈ lw_tbl := List.mem_of_getElem? (i := 1045) (by decide +kernel)
theorem ml_L_121 : Cond.methodLink RL 121 yX10_sum ∈ lw_tbl := List.mem_of_getElem? (i := 1046) (by decide +kernel)
theorem im_X10_sum : Cond.instanceMethod yX10_sum ∈ lw_tbl := List.mem_of_getElem? (i := 1047) (by decide +kernel)
theorem se_X10_sum : Cond.selects RX10 yX10_sum yX10_sum ∈ lw_tbl := List.mem_of_getElem? (i := 1048) (by decide +kernel)
theorem cd_X10_sum : Cond.code yX10_sum cX10_sum 12 (some .long) ∈ lw_tbl := List.mem_of_getElem? (i := 1049) (by decide +kernel)
theorem ml_L_125 : Cond.methodLink RL 125 yX10_mend ∈ lw_tbl := List.mem_of_getElem? (i := 1050) (by decide +kernel)
theorem im_X10_mend : Cond.instanceMethod yX10_mend ∈ lw_tbl := List.mem_of_getElem? (i := 1051) (by decide +kernel)
theorem se_X10_mend : Cond.selects RX10 yX10_mend yX10_mend ∈ lw_tbl := List.mem_of_getElem? (i := 1052) (by decide +kernel)
theorem cd_X10_mend : Cond.code yX10_mend cX10_mend 3 (some .int) ∈ lw_tbl := List.mem_of_getElem? (i := 1053) (by decide +kernel)
theorem ml_L_129 : Cond.methodLink RL 129 yX10_settle ∈ lw_tbl := List.mem_of_getElem? (i := 1054) (by decide +kernel)
theorem im_X10_settle : Cond.instanceMethod yX10_settle ∈ lw_tbl := List.mem_of_getElem? (i := 1055) (by decide +kernel)
theorem se_X10_settle : Cond.selects RX10 yX10_settle yX10_settle ∈ lw_tbl := List.mem_of_getElem? (i := 1056) (by decide +kernel)
theorem cd_X10_settle : Cond.code yX10_settle cX10_settle 7 (some .int) ∈ lw_tbl := List.mem_of_getElem? (i := 1057) (by decide +kernel)
theorem ml_X10_205 : Cond.methodLink RX10 205 yX10_settled ∈ lw_tbl := List.mem_of_getElem? (i := 1058) (by decide +kernel)
theorem im_X10_settled : Cond.instanceMethod yX10_settled ∈ lw_tbl := List.mem_of_getElem? (i := 1060) (by decide +kernel)
theorem cd_X10_settled : Cond.code yX10_settled cX10_settled 13 (some .long) ∈ lw_tbl := List.mem_of_getElem? (i := 1061) (by decide +kernel)
theorem ml_L_133 : Cond.methodLink RL 133 yX10_ask ∈ lw_tbl := List.mem_of_getElem? (i := 1062) (by decide +kernel)
theorem im_X10_ask : Cond.instanceMethod yX10_ask ∈ lw_tbl := List.mem_of_getElem? (i := 1063) (by decide +kernel)
theorem se_X10_ask : Cond.selects RX10 yX10_ask yX10_ask ∈ lw_tbl := List.mem_of_getElem? (i := 1064) (by decide +kernel)
theorem cd_X10_ask : Cond.code yX10_ask cX10_ask 2 (some .int) ∈ lw_tbl := List.mem_of_getElem? (i := 1065) (by decide +kernel)
theorem ml_L_137 : Cond.methodLink RL 137 yX10_part ∈ lw_tbl := List.mem_of_getElem? (i := 1066) (by decide +kernel)
theorem im_X10_part : Cond.instanceMethod yX10_part ∈ lw_tbl := List.mem_of_getElem? (i := 1067) (by decide +kernel)
theorem se_X10_part : Cond.selects RX10 yX10_part yX10_part ∈ lw_tbl := List.mem_of_getElem? (i := 1068) (by decide +kernel)
theorem cd_X10_part : Cond.code yX10_part cX10_part 3 (some .int) ∈ lw_tbl := List.mem_of_getElem? (i := 1069) (by decide +kernel)
theorem ml_L_141 : Cond.methodLink RL 141 yX10_tell ∈ lw_tbl := List.mem_of_getElem? (i := 1070) (by decide +kernel)
theorem im_X10_tell : Cond.instanceMethod yX10_tell ∈ lw_tbl := List.mem_of_getElem? (i := 1071) (by decide +kernel)
theorem se_X10_tell : Cond.selects RX10 yX10_tell yX10_tell ∈ lw_tbl := List.mem_of_getElem? (i := 1072) (by decide +kernel)
theorem cd_X10_tell : Cond.code yX10_tell cX10_tell 5 (some .int) ∈ lw_tbl := List.mem_of_getElem? (i := 1073) (by decide +kernel)
theorem ml_X10_215 : Cond.methodLink RX10 215 yX10_noPart ∈ lw_tbl := List.mem_of_getElem? (i := 1074) (by decide +kernel)
theorem im_X10_noPart : Cond.instanceMethod yX10_noPart ∈ lw_tbl := List.mem_of_getElem? (i := 1076) (by decide +kernel)
theorem cd_X10_noPart : Cond.code yX10_noPart cX10_noPart 2 (some .boolean) ∈ lw_tbl := List.mem_of_getElem? (i := 1077) (by decide +kernel)
theorem ml_L_145 : Cond.methodLink RL 145 yX10_join ∈ lw_tbl := List.mem_of_getElem? (i := 1078) (by decide +kernel)
theorem im_X10_join : Cond.instanceMethod yX10_join ∈ lw_tbl := List.mem_of_getElem? (i := 1079) (by decide +kernel)
theorem se_X10_join : Cond.selects RX10 yX10_join yX10_join ∈ lw_tbl := List.mem_of_getElem? (i := 1080) (by decide +kernel)
theorem cd_X10_join : Cond.code yX10_join cX10_join 5 (some .int) ∈ lw_tbl := List.mem_of_getElem? (i := 1081) (by decide +kernel)
theorem ml_L_149 : Cond.methodLink RL 149 yX10_stands ∈ lw_tbl := List.mem_of_getElem? (i := 1082) (by decide +kernel)
theorem im_X10_stands : Cond.instanceMethod yX10_stands ∈ lw_tbl := List.mem_of_getElem? (i := 1083) (by decide +kernel)
theorem se_X10_stands : Cond.selects RX10 yX10_stands yX10_stands ∈ lw_tbl := List.mem_of_getElem? (i := 1084) (by decide +kernel)
theorem cd_X10_stands : Cond.code yX10_stands cX10_stands 1 (some .int) ∈ lw_tbl := List.mem_of_getElem? (i := 1085) (by decide +kernel)
theorem ml_X10_221 : Cond.methodLink RX10 221 yX10_standsIn ∈ lw_tbl := List.mem_of_getElem? (i := 1086) (by decide +kernel)
theorem im_X10_standsIn : Cond.instanceMethod yX10_standsIn ∈ lw_tbl := List.mem_of_getElem? (i := 1088) (by decide +kernel)
theorem cd_X10_standsIn : Cond.code yX10_standsIn cX10_standsIn 7 (some .boolean) ∈ lw_tbl := List.mem_of_getElem? (i := 1089) (by decide +kernel)
theorem ml_X10_218 : Cond.methodLink RX10 218 yX10_fitsPart ∈ lw_tbl := List.mem_of_getElem? (i := 1090) (by decide +kernel)
theorem im_X10_fitsPart : Cond.instanceMethod yX10_fitsPart ∈ lw_tbl := List.mem_of_getElem? (i := 1092) (by decide +kernel)
theorem cd_X10_fitsPart : Cond.code yX10_fitsPart cX10_fitsPart 5 (some .boolean) ∈ lw_tbl := List.mem_of_getElem? (i := 1093) (by decide +kernel)
theorem ml_L_153 : Cond.methodLink RL 153 yX10_often ∈ lw_tbl := List.mem_of_getElem? (i := 1094) (by decide +kernel)
theorem im_X10_often : Cond.instanceMethod yX10_often ∈ lw_tbl := List.mem_of_getElem? (i := 1095) (by decide +kernel)
theorem se_X10_often : Cond.selects RX10 yX10_often yX10_often ∈ lw_tbl := List.mem_of_getElem? (i := 1096) (by decide +kernel)
theorem cd_X10_often : Cond.code yX10_often cX10_often 1 (some .int) ∈ lw_tbl := List.mem_of_getElem? (i := 1097) (by decide +kernel)
theorem ml_X10_224 : Cond.methodLink RX10 224 yX10_oftenOf ∈ lw_tbl := List.mem_of_getElem? (i := 1098) (by decide +kernel)
theorem im_X10_oftenOf : Cond.instanceMethod yX10_oftenOf ∈ lw_tbl := List.mem_of_getElem? (i := 1100) (by decide +kernel)
theorem cd_X10_oftenOf : Cond.code yX10_oftenOf cX10_oftenOf 3 (some .int) ∈ lw_tbl := List.mem_of_getElem? (i := 1101) (by decide +kernel)
theorem ml_L_157 : Cond.methodLink RL 157 yX10_sure ∈ lw_tbl := List.mem_of_getElem? (i := 1102) (by decide +kernel)
theorem im_X10_sure : Cond.instanceMethod yX10_sure ∈ lw_tbl := List.mem_of_getElem? (i := 1103) (by decide +kernel)
theorem se_X10_sure : Cond.selects RX10 yX10_sure yX10_sure ∈ lw_tbl := List.mem_of_getElem? (i := 1104) (by decide +kernel)
theorem cd_X10_sure : Cond.code yX10_sure cX10_sure 2 (some .int) ∈ lw_tbl := List.mem_of_getElem? (i := 1105) (by decide +kernel)
theorem ml_L_161 : Cond.methodLink RL 161 yX10_against ∈ lw_tbl := List.mem_of_getElem? (i := 1106) (by decide +kernel)
theorem im_X10_against : Cond.instanceMethod yX10_against ∈ lw_tbl := List.mem_of_getElem? (i := 1107) (by decide +kernel)
theorem se_X10_against : Cond.selects RX10 yX10_against yX10_against ∈ lw_tbl := List.mem_of_getElem? (i := 1108) (by decide +kernel)
theorem cd_X10_against : Cond.code yX10_against cX10_against 2 (some .int) ∈ lw_tbl := List.mem_of_getElem? (i := 1109) (by decide +kernel)
theorem ml_L_165 : Cond.methodLink RL 165 yX10_count ∈ lw_tbl := List.mem_of_getElem? (i := 1110) (by decide +kernel)
theorem im_X10_count : Cond.instanceMethod yX10_count ∈ lw_tbl := List.mem_of_getElem? (i := 1111) (by decide +kernel)
theorem se_X10_count : Cond.selects RX10 yX10_count yX10_count ∈ lw_tbl := List.mem_of_getElem? (i := 1112) (by decide +kernel)
theorem cd_X10_count : Cond.code yX10_count cX10_count 4 (some .int) ∈ lw_tbl := List.mem_of_getElem? (i := 1113) (by decide +kernel)
theorem co_L_23 : Cond.constantLong RL 23 4294967295 ∈ lw_tbl := List.mem_of_getElem? (i := 1114) (by decide +kernel)
theorem inX0 : ∀ w ∈ wsX00, w ∈ lw_tbl := by decide +kernel
theorem inX1 : ∀ w ∈ wsX10, w ∈ lw_tbl := by decide +kernel
theorem inX2 : ∀ w ∈ wsX20, w ∈ lw_tbl := by decide +kernel
theorem inX3 : ∀ w ∈ wsX30, w ∈ lw_tbl := by decide +kernel
theorem inX4 : ∀ w ∈ wsX40, w ∈ lw_tbl := by decide +kernel
theorem inX5 : ∀ w ∈ wsX50, w ∈ lw_tbl := by decide +kernel
theorem inX6 : ∀ w ∈ wsX60, w ∈ lw_tbl := by decide +kernel
theorem inX7 : ∀ w ∈ wsX70, w ∈ lw_tbl := by decide +kernel
theorem inX8 : ∀ w ∈ wsX80, w ∈ lw_tbl := by decide +kernel
theorem inX9 : ∀ w ∈ wsX90, w ∈ lw_tbl := by decide +kernel
theorem inX10 : ∀ w ∈ wsX100, w ∈ lw_tbl := by decide +kernel
end
section
-- the judgement P over one world: all cells of both objects, cell k at the address b0 + k; what they hold is a value of SS
abbrev SS : Type := (Nat → Nat → Nat) × (Nat → Nat → Int64) × (Nat → Nat → Option Nat)
abbrev GG : Type := Launch × va_G × (Nat → ClassId) × Nat
def ad (G : GG) (k : Nat) : Nat := G.2.2.2 + k
/-- what the cells are, in the order in which they are made: kind (0..10 an object of that class of vwCl; 11 int[], 12 long[], 13 boolean[]; 20 + c an array of objects of class c), how many slots -/
def layL : List (Nat × Nat) := [(9, 6), (28, 4), (7, 2), (26, 12)] ++ [(6, 5), (12, 6), (13, 6)] ++ [(6, 5), (12, 6), (13, 6)] ++ [(6, 5), (12, 6), (13, 6)] ++ [(6, 5), (12, 6), (13, 6)] ++ [(6, 5), (12, 6), (13, 6)] ++ [(6, 5), (12, 6), (13, 6)] ++ [(6, 5), (12, 6), (13, 6)] ++ [(6, 5), (12, 6), (13, 6)] ++ [(6, 5), (12, 6), (13, 6)] ++ [(6, 5), (12, 6), (13, 6)] ++ [(6, 5), (12, 6), (13, 6)] ++ [(6, 5), (12, 6), (13, 6)] ++
  [(2, 5), (21, 10), (11, 4096)] ++ List.replicate 10 (1, 8) ++ [(3, 7), (11, 4096), (13, 4096), (13, 4096)] ++ [(5, 8), (24, 3), (20, 6), (11, 3), (11, 3), (13, 4096)] ++ [(4, 3), (13, 6), (12, 6)] ++ [(4, 3), (13, 6), (12, 6)] ++ [(4, 3), (13, 6), (12, 6)] ++ List.replicate 6 (0, 4) ++ [(8, 2), (11, 6)] ++ [(8, 2), (11, 6)] ++ [(8, 2), (11, 6)] ++ [(8, 2), (11, 6)] ++
  [(10, 36), (11, 4), (11, 24), (11, 12), (11, 12), (13, 12), (13, 72), (12, 72), (11, 10), (11, 10), (11, 10), (11, 10), (11, 10), (12, 10), (12, 10), (13, 10), (11, 3), (13, 18), (12, 18), (11, 6), (11, 6), (11, 6), (11, 6), (11, 4096), (13, 4096), (11, 4096), (12, 12), (11, 3)]
def lay (k : Nat) : Nat × Nat := layL.getD k (99, 0)
/-- the fields' types: 0 an int or a boolean, 1 a long, 2 a reference -/
def ftyL : List (List Nat) := [[0, 0, 0, 0], [0, 0, 0, 0, 0, 1, 1, 0], [2, 2, 0, 2, 0], [2, 2, 2, 0, 0, 2, 2], [2, 2, 0], [2, 2, 0, 2, 0, 2, 2, 2], [2, 2, 0, 0, 0], [2, 0], [2, 0], [2, 2, 2, 2, 2, 0],
  [0, 2, 2, 0, 2, 2, 2, 2, 2, 0, 2, 2, 2, 2, 2, 2, 2, 2, 0, 0, 2, 2, 2, 0, 2, 2, 2, 2, 0, 0, 2, 2, 0, 2, 2, 2]]
def fty (c j : Nat) : Nat := (ftyL.getD c []).getD j 3
def szs : Nat → Nat
  | 0 => 0
  | n + 1 => szs n + (lay n).2
def fv (G : GG) (σ : SS) (k t j : Nat) : Value := if t = 0 then .int (nI (σ.1 k j)) else if t = 1 then .long (σ.2.1 k j) else va_rf ((σ.2.2 k j).map (fun q => ad G q))
def cellAt (G : GG) (σ : SS) (k kd n : Nat) : va_E :=
  if kd < 11 then .inr (kd, (List.range n).map (fun j => fv G σ k (fty kd j) j))
  else if kd = 11 then .inl (G.2.2.1 0, n, .inl fun j => nI (σ.1 k j))
  else if kd = 12 then .inl (G.2.2.1 1, n, .inr (.inl (σ.2.1 k)))
  else if kd = 13 then .inl (G.2.2.1 2, n, .inl fun j => nI (σ.1 k j))
  else .inl (G.2.2.1 kd, n, .inr (.inr (.inr (.inr (fun j => (σ.2.2 k j).map (fun q => ad G q))))))
def cellOf (G : GG) (σ : SS) (k : Nat) : va_E := cellAt G σ k (lay k).1 (lay k).2
def wsl (G : GG) (n : Nat) (σ : SS) : va_W := (List.range n).map fun k => (ad G k, cellOf G σ k)
def tysl (G : GG) : List (ClassId × FieldType) := [(G.2.2.1 0, .int), (G.2.2.1 1, .long), (G.2.2.1 2, .boolean), (G.2.2.1 20, .object RX0), (G.2.2.1 21, .object RX1), (G.2.2.1 24, .object RX4), (G.2.2.1 26, .object RX6), (G.2.2.1 28, .object RX8)]
def A0 (G : GG) : Nat → Prop := fun q => G.2.2.2 ≤ q
theorem wsl_get {G : GG} {n : Nat} {σ : SS} {k : Nat} (h : k < n) : (wsl G n σ)[k]? = some (ad G k, cellOf G σ k) := by
  simp [wsl, h]
theorem wsl_inv {G : GG} {n : Nat} {σ : SS} {k : Nat} {q : Nat × va_E} (h : (wsl G n σ)[k]? = some q) : k < n ∧ q = (ad G k, cellOf G σ k) := by
  have hk : k < n := by
    have := (List.getElem?_eq_some_iff.mp h).1
    simpa [wsl] using this
  rw [wsl_get hk] at h
  exact ⟨hk, (Option.some.inj h).symm⟩
theorem wsl_D (G : GG) (n : Nat) (σ : SS) : va_D (A0 G) (wsl G n σ) := by
  refine ⟨fun i j p q hi hj hpq => ?_, fun k q hk => ?_⟩
  · obtain ⟨-, rfl⟩ := wsl_inv hi
    obtain ⟨-, rfl⟩ := wsl_inv hj
    simp only [ad] at hpq
    omega
  · obtain ⟨-, rfl⟩ := wsl_inv hk
    simp only [A0, ad]
    omega
theorem wsl_set {G : GG} {n : Nat} {σ σ' : SS} {k : Nat} {e : va_E} (he : cellOf G σ' k = e) (ho : ∀ q, q ≠ k → cellOf G σ' q = cellOf G σ q) : (wsl G n σ).set k (ad G k, e) = wsl G n σ' := by
  apply List.ext_getElem?
  intro i
  by_cases hi : i < n
  · by_cases hik : i = k
    · subst hik
      rw [List.getElem?_set_self (by simpa [wsl] using hi), wsl_get hi, he]
    · rw [List.getElem?_set_ne (Ne.symm hik), wsl_get hi, wsl_get hi, ho i hik]
  · rw [List.getElem?_eq_none (by simp [wsl]; omega), List.getElem?_eq_none (by simp [wsl]; omega)]
theorem wsl_push (G : GG) (n : Nat) (σ σ' : SS) {e : va_E} (he : cellOf G σ' n = e) (ho : ∀ q, q < n → cellOf G σ' q = cellOf G σ q) : wsl G n σ ++ [(ad G n, e)] = wsl G (n + 1) σ' := by
  simp only [wsl, List.range_succ, List.map_append, List.map_cons, List.map_nil, he]
  congr 1
  apply List.map_congr_left
  intro q hq
  rw [ho q (List.mem_range.mp hq)]
theorem cellAt_row {G : GG} {σ σ' : SS} {k kd n : Nat} (h1 : σ'.1 k = σ.1 k) (h2 : σ'.2.1 k = σ.2.1 k) (h3 : σ'.2.2 k = σ.2.2 k) : cellAt G σ' k kd n = cellAt G σ k kd n := by
  simp only [cellAt, fv, h1, h2, h3]
theorem cellOf_row {G : GG} {σ σ' : SS} {k : Nat} (h1 : σ'.1 k = σ.1 k) (h2 : σ'.2.1 k = σ.2.1 k) (h3 : σ'.2.2 k = σ.2.2 k) : cellOf G σ' k = cellOf G σ k := cellAt_row h1 h2 h3
/-- one slot written -/
def uf {α : Type} (f : Nat → Nat → α) (k j : Nat) (v : α) : Nat → Nat → α := fun a b => if a = k ∧ b = j then v else f a b
theorem uf_self {α : Type} (f : Nat → Nat → α) (k j : Nat) (v : α) : uf f k j v k j = v := by simp [uf]
theorem uf_ne {α : Type} (f : Nat → Nat → α) {k j a b : Nat} (v : α) (h : a ≠ k ∨ b ≠ j) : uf f k j v a b = f a b := by
  simp only [uf]
  rw [if_neg]
  rintro ⟨rfl, rfl⟩
  rcases h with h | h <;> exact h rfl
theorem uf_row {α : Type} (f : Nat → Nat → α) {k j a : Nat} (v : α) (h : a ≠ k) : uf f k j v a = f a := by
  funext b
  exact uf_ne f v (Or.inl h)
-- the words of the tables: those that stay as they are, and the nest mates' and arrays' words
def gtbl : List Cond := lw_tbl.filter goodWord
def isNest : Cond → Bool
  | .methodLinkNest .. => true
  | _ => false
def nstW : List Cond := lw_tbl.filter isNest
def overs : List String := [RX0, RX1, RX4, RX6, RX8]
theorem tog {w : Cond} (h : w ∈ lw_tbl) (hg : goodWord w = true) : w ∈ gtbl := List.mem_filter.mpr ⟨h, hg⟩
theorem gtbl_good : ∀ w ∈ gtbl, goodWord w = true := fun _ h => (List.mem_filter.mp h).2
theorem lays_good {C : String} {T : u_T} {N : Nat} : ∀ w ∈ u_ws C T N, goodWord w = true := by
  intro w h
  obtain ⟨k, -, rfl⟩ := List.mem_map.mp h
  unfold u_lay
  split <;> rfl
-- the judgement
/-- a method: its name, bytes, locals, answer, frames -/
abbrev MI : Type := MethodName × ByteArray × Nat × Option FieldType × Nat
def mws (mi : MI) : List Cond := Cond.code mi.1 mi.2.1 mi.2.2.1 mi.2.2.2.1 :: gtbl
def mrm (mi : MI) (mc ms : Nat) : Room := { frames := mi.2.2.2.2, cells := mc, slots := ms, locals := 40 * mi.2.2.2.2 }
/-- what holds of the classes in every state -/
def Kl (G : GG) (U : State) : Prop := va_K G.2.1 vwCl (tysl G) U ∧ (∀ w ∈ nstW, va_Nw w U) ∧ ∀ C ∈ overs, va_AO C U
def Hp (G : GG) (n : Nat) (σ : SS) (H : Heap) : Prop := H.size = ad G n ∧ va_P G.2.1 vwCl (wsl G n σ) H
def Wd (G : GG) (n : Nat) (σ : SS) (U : State) : Prop := Hp G n σ U.heap ∧ Kl G U
def Qo (G : GG) (r : Option Value) (n : Nat) (σ : SS) : Array Value → State → Outcome → State → Prop := fun _ st o t => o = .returned r ∧ Hp G n σ t.heap ∧ va_F (A0 G) st t
def Spec (G : GG) (mi : MI) (as : List Value) (n0 : Nat) (σ0 : SS) (r : Option Value) (n1 : Nat) (σ1 : SS) : Prop :=
  (n0 ≤ n1 ∧ szs n0 ≤ szs n1) ∧ Met G.1 mi.1 (mws mi) (mrm mi (n1 - n0) (szs n1 - szs n0)) (va_Pc as (Wd G n0 σ0)) (Qo G r n1 σ1) (n1 - n0) (szs n1 - szs n0) (A0 G)
abbrev KK : Type := Room × Nat × (State → Array Value → Method → Prop) × (State → Array Value → List Frame → State → Prop)
def KM (G : GG) (mi : MI) (n0 n1 : Nat) (r : Option Value) (σ1 : SS) : KK :=
  (mrm mi (n1 - n0) (szs n1 - szs n0), n0, fun _ _ meth => meth.sig.returnType = mi.2.2.2.1 ∧ meth.name = mi.1.name, fun s args below => MQ below (Qo G r n1 σ1) args s (n1 - n0) (szs n1 - szs n0) (A0 G))
/-- the machine's words that a method has in every state -/
def MC (G : GG) (own : String) (cc : ByteArray) (nL : Nat) (p : Program) (s : State) (m : MethodId) (args : Array Value) (meth : Method) (c : Code) : Prop :=
  p.tables.exec = Jvm.exec ∧ c.code = cc ∧ c.maxLocals = nL ∧ s.vm.findClass own = some m.cls ∧ (∀ w ∈ gtbl, w.before args s = true) ∧ Kl G s ∧ meth.locks = false ∧ G.2.2.2 ≤ s.heap.size
/-- locals: what is known of each place -/
def lvl : Nat → List (Option Value) → List (Nat × Value)
  | _, [] => []
  | i, none :: r => lvl (i + 1) r
  | i, some v :: r => (i, v) :: lvl (i + 1) r
def lget : List (Option Value) → Nat → Option Value
  | [], _ => none
  | a :: _, 0 => a
  | _ :: r, k + 1 => lget r k
def lst : List (Option Value) → Nat → Option Value → List (Option Value)
  | [], _, _ => []
  | _ :: r, 0, v => v :: r
  | a :: r, k + 1, v => a :: lst r k v
def lcl : Option Value → Option Value
  | some (.long _) => none
  | some (.double _) => none
  | v => v
def lclr (ls : List (Option Value)) : Nat → List (Option Value)
  | 0 => ls
  | k + 1 => lst ls k (lcl (lget ls k))
def lset1 (ls : List (Option Value)) (k : Nat) (v : Value) : List (Option Value) := lst (lclr ls k) k (some v)
def lset2 (ls : List (Option Value)) (k : Nat) (v : Value) : List (Option Value) := lst (lst (lclr ls k) k (some v)) (k + 1) none
def P (G : GG) (own : String) (cc : ByteArray) (nL : Nat) (K : KK) (pc : Nat) (ls : List (Option Value)) (st : List Value) (n : Nat) (σ : SS) : Prop :=
  ∀ (p : Program) (e : Env) (s : State) (m : MethodId) (args : Array Value) (below : List Frame) (meth : Method) (c : Code), MC G own cc nL p s m args meth c → K.2.2.1 s args meth →
  ∀ (H : Heap) (locs : List Loc) (lsA : Array Slot), Hp G n σ H → va_S (A0 G) s.heap H locs → lv_has lsA nL (lvl 0 ls) → K.2.1 ≤ n → szs K.2.1 ≤ szs n →
  W p G.1 e K.1 s m args below meth c H locs (n - K.2.1) (szs n - szs K.2.1) (K.2.2.2 s args below) (F0 m pc lsA st)
theorem lvl_mem : ∀ (ls : List (Option Value)) (i k : Nat) (v : Value), lget ls k = some v → (i + k, v) ∈ lvl i ls
  | [], _, _, _, h => by simp [lget] at h
  | a :: r, i, 0, v, h => by
    simp only [lget] at h
    subst h
    simp [lvl]
  | none :: r, i, k + 1, v, h => by
    have := lvl_mem r (i + 1) k v (by simpa [lget] using h)
    simp only [lvl]
    rwa [show i + (k + 1) = i + 1 + k by omega]
  | some w :: r, i, k + 1, v, h => by
    have := lvl_mem r (i + 1) k v (by simpa [lget] using h)
    simp only [lvl]
    rw [show i + (k + 1) = i + 1 + k by omega]
    exact List.mem_cons_of_mem _ this
theorem lvl_inv : ∀ (ls : List (Option Value)) (i : Nat) (q : Nat × Value), q ∈ lvl i ls → ∃ k, q.1 = i + k ∧ lget ls k = some q.2
  | [], _, _, h => by simp [lvl] at h
  | none :: r, i, q, h => by
    obtain ⟨k, h1, h2⟩ := lvl_inv r (i + 1) q (by simpa [lvl] using h)
    exact ⟨k + 1, by omega, by simpa [lget] using h2⟩
  | some w :: r, i, q, h => by
    simp only [lvl, List.mem_cons] at h
    rcases h with rfl | h
    · exact ⟨0, rfl, rfl⟩
    · obtain ⟨k, h1, h2⟩ := lvl_inv r (i + 1) q h
      exact ⟨k + 1, by omega, by simpa [lget] using h2⟩
theorem lget_lst : ∀ (ls : List (Option Value)) (k j : Nat) (v : Option Value), lget (lst ls k v) j = if j = k ∧ k < ls.length then v else lget ls j
  | [], k, j, v => by simp [lst, lget]
  | a :: r, 0, 0, v => by simp [lst, lget]
  | a :: r, 0, j + 1, v => by simp [lst, lget]
  | a :: r, k + 1, 0, v => by simp [lst, lget]
  | a :: r, k + 1, j + 1, v => by
    simp only [lst, lget, lget_lst r k j v, List.length_cons]
    by_cases h : j = k ∧ k < r.length
    · rw [if_pos h, if_pos (by omega)]
    · rw [if_neg h, if_neg (by omega)]
theorem lv_loc {lsA : Array Slot} {nL k : Nat} {ls : List (Option Value)} {v : Value} (h : lv_has lsA nL (lvl 0 ls)) (hk : lget ls k = some v) : lsA[k]? = some (.val v) := by
  have := lvl_mem ls 0 k v hk
  rw [Nat.zero_add] at this
  exact h.2.2 _ this
theorem lget_lclr {ls : List (Option Value)} {k j : Nat} {v : Value} (h : lget (lclr ls k) j = some v) : lget ls j = some v ∧ ¬ (j + 1 = k ∧ v.category = 2) := by
  cases k with
  | zero => exact ⟨h, fun q => by omega⟩
  | succ k =>
    simp only [lclr, lget_lst] at h
    split at h
    · next hc =>
      obtain ⟨rfl, -⟩ := hc
      cases hg : lget ls j with
      | none => rw [hg] at h; simp [lcl] at h
      | some w =>
        rw [hg] at h
        cases w <;> simp [lcl] at h <;> subst h <;> simp [Value.category]
    · next hc =>
      refine ⟨h, fun q => hc ⟨by omega, ?_⟩⟩
      obtain ⟨q1, -⟩ := q
      have hj : j = k := by omega
      subst hj
      have : ∀ (ls : List (Option Value)) (j : Nat), lget ls j = some v → j < ls.length := by
        intro ls
        induction ls with
        | nil => intro j h; simp [lget] at h
        | cons a r ih =>
          intro j h
          cases j with
          | zero => simp
          | succ j => have := ih j (by simpa [lget] using h); simp only [List.length_cons]; omega
      exact this ls j h
theorem lset1_has {lsA : Array Slot} {nL k : Nat} {ls : List (Option Value)} {v : Value} {l' : List (Nat × Value)} (hf : (k, v) :: (lvl 0 ls).filter (fun q => !(q.1 == k) && !(q.1 + 1 == k && q.2.category == 2)) = l') (h : lv_has lsA nL l') : lv_has lsA nL (lvl 0 (lset1 ls k v)) := by
  refine ⟨h.1, h.2.1, fun q hq => h.2.2 q ?_⟩
  obtain ⟨j, h1, h2⟩ := lvl_inv _ _ _ hq
  rw [Nat.zero_add] at h1
  obtain ⟨q1, q2⟩ := q
  dsimp only at h1 h2
  subst h1
  rw [← hf]
  simp only [lset1, lget_lst] at h2
  split at h2
  · next hc =>
    obtain ⟨rfl, -⟩ := hc
    cases h2
    exact List.mem_cons_self
  · next hc =>
    obtain ⟨h3, h4⟩ := lget_lclr h2
    by_cases hk : q1 = k
    · subst hk
      exfalso
      apply hc
      refine ⟨rfl, ?_⟩
      have : ∀ (ls : List (Option Value)) (j : Nat) (w : Value), lget ls j = some w → j < ls.length := by
        intro ls
        induction ls with
        | nil => intro j w h; simp [lget] at h
        | cons a r ih =>
          intro j w h
          cases j with
          | zero => simp
          | succ j => have := ih j w (by simpa [lget] using h); simp only [List.length_cons]; omega
      exact this _ _ _ h2
    · refine List.mem_cons_of_mem _ (List.mem_filter.mpr ⟨?_, ?_⟩)
      · have := lvl_mem ls 0 q1 q2 h3
        rwa [Nat.zero_add] at this
      · simp only [Bool.and_eq_true, Bool.not_eq_true', beq_eq_false_iff_ne, ne_eq, Bool.and_eq_false_iff]
        refine ⟨hk, ?_⟩
        by_cases z : q1 + 1 = k
        · exact Or.inr fun y => h4 ⟨z, y⟩
        · exact Or.inl z
theorem lset2_has {lsA : Array Slot} {nL k : Nat} {ls : List (Option Value)} {v : Value} {l' : List (Nat × Value)} (hf : (k, v) :: (lvl 0 ls).filter (fun q => !(q.1 == k) && (!(q.1 == k + 1) && !(q.1 + 1 == k && q.2.category == 2))) = l') (h : lv_has lsA nL l') (hn : k + 1 < ls.length) : lv_has lsA nL (lvl 0 (lset2 ls k v)) := by
  have hlen : ∀ (ls : List (Option Value)) (j : Nat) (v : Option Value), (lst ls j v).length = ls.length := by
    intro ls
    induction ls with
    | nil => intro j v; rfl
    | cons a r ih => intro j v; cases j with
      | zero => rfl
      | succ j => simp only [lst, List.length_cons, ih]
  have hl2 : (lclr ls k).length = ls.length := by
    cases k with
    | zero => rfl
    | succ k => exact hlen _ _ _
  refine ⟨h.1, h.2.1, fun q hq => h.2.2 q ?_⟩
  obtain ⟨j, h1, h2⟩ := lvl_inv _ _ _ hq
  rw [Nat.zero_add] at h1
  obtain ⟨q1, q2⟩ := q
  dsimp only at h1 h2
  subst h1
  rw [← hf]
  simp only [lset2, lget_lst] at h2
  split at h2
  · cases h2
  · next hc =>
    split at h2
    · next hc2 =>
      obtain ⟨rfl, -⟩ := hc2
      cases h2
      exact List.mem_cons_self
    · next hc2 =>
      obtain ⟨h3, h4⟩ := lget_lclr h2
      have hk : q1 ≠ k := fun z => hc2 ⟨z, by omega⟩
      have hk1 : q1 ≠ k + 1 := fun z => hc ⟨z, by rw [hlen]; omega⟩
      refine List.mem_cons_of_mem _ (List.mem_filter.mpr ⟨?_, ?_⟩)
      · have := lvl_mem ls 0 q1 q2 h3
        rwa [Nat.zero_add] at this
      · simp only [Bool.and_eq_true, Bool.not_eq_true', beq_eq_false_iff_ne, ne_eq, Bool.and_eq_false_iff]
        refine ⟨hk, hk1, ?_⟩
        by_cases z : q1 + 1 = k
        · exact Or.inr fun y => h4 ⟨z, y⟩
        · exact Or.inl z
end
