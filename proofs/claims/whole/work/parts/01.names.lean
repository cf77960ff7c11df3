-- ===== PART A: goes FIRST, ahead of the names: the tables' words, and 'selects' of the private methods out of them =====
/-- a private method of a class that the tables say can be made, by its rows of tables_1 -/
def lw_okq (q : MethodName × Nat) : Prop := (q.1.cls ≠ "java/lang/invoke/MethodHandle" ∧ q.1.cls ≠ "java/lang/invoke/VarHandle") ∧ Cond.instantiable q.1.cls q.2 ∈ tables_1 ∧ Cond.privateMethod q.1 ∈ tables_1 ∧ Cond.instanceMethod q.1 ∈ tables_1
theorem lw_p0 : lw_okq (⟨"DelayedExtents", "countPages", "()I"⟩, 2) := ⟨⟨by decide +kernel, by decide +kernel⟩, List.mem_of_getElem? (i := 15) (by decide +kernel), List.mem_of_getElem? (i := 85) (by decide +kernel), List.mem_of_getElem? (i := 86) (by decide +kernel)⟩
theorem lw_p1 : lw_okq (⟨"DelayedExtents$BlockFile", "continuesRow", "(I)Z"⟩, 8) := ⟨⟨by decide +kernel, by decide +kernel⟩, List.mem_of_getElem? (i := 41) (by decide +kernel), List.mem_of_getElem? (i := 128) (by decide +kernel), List.mem_of_getElem? (i := 129) (by decide +kernel)⟩
theorem lw_p2 : lw_okq (⟨"java/lang/Throwable", "fillInStackTrace", "(I)Ljava/lang/Throwable;"⟩, 6) := ⟨⟨by decide +kernel, by decide +kernel⟩, List.mem_of_getElem? (i := 203) (by decide +kernel), List.mem_of_getElem? (i := 201) (by decide +kernel), List.mem_of_getElem? (i := 202) (by decide +kernel)⟩
theorem lw_p3 : lw_okq (⟨"DelayedExtents", "isOverbooked", "()Z"⟩, 2) := ⟨⟨by decide +kernel, by decide +kernel⟩, List.mem_of_getElem? (i := 15) (by decide +kernel), List.mem_of_getElem? (i := 251) (by decide +kernel), List.mem_of_getElem? (i := 252) (by decide +kernel)⟩
theorem lw_p4 : lw_okq (⟨"DelayedExtents$BlockFile", "endOfRow", "(IIZ)I"⟩, 8) := ⟨⟨by decide +kernel, by decide +kernel⟩, List.mem_of_getElem? (i := 41) (by decide +kernel), List.mem_of_getElem? (i := 331) (by decide +kernel), List.mem_of_getElem? (i := 332) (by decide +kernel)⟩
theorem lw_p5 : lw_okq (⟨"DelayedExtents$BlockFile", "mapRow", "(II)V"⟩, 8) := ⟨⟨by decide +kernel, by decide +kernel⟩, List.mem_of_getElem? (i := 41) (by decide +kernel), List.mem_of_getElem? (i := 335) (by decide +kernel), List.mem_of_getElem? (i := 336) (by decide +kernel)⟩
theorem lw_p6 : lw_okq (⟨"DelayedExtents$BlockFile", "placeBehind", "(I)I"⟩, 8) := ⟨⟨by decide +kernel, by decide +kernel⟩, List.mem_of_getElem? (i := 41) (by decide +kernel), List.mem_of_getElem? (i := 339) (by decide +kernel), List.mem_of_getElem? (i := 340) (by decide +kernel)⟩
theorem lw_p7 : lw_okq (⟨"DelayedExtents$Volume", "untakenFrom", "(I)I"⟩, 2) := ⟨⟨by decide +kernel, by decide +kernel⟩, List.mem_of_getElem? (i := 23) (by decide +kernel), List.mem_of_getElem? (i := 351) (by decide +kernel), List.mem_of_getElem? (i := 352) (by decide +kernel)⟩
theorem lw_p8 : lw_okq (⟨"DelayedExtents$BlockFile", "mapTo", "(II)V"⟩, 8) := ⟨⟨by decide +kernel, by decide +kernel⟩, List.mem_of_getElem? (i := 41) (by decide +kernel), List.mem_of_getElem? (i := 358) (by decide +kernel), List.mem_of_getElem? (i := 359) (by decide +kernel)⟩
theorem lw_p9 : lw_okq (⟨"DelayedExtents$BlockFile", "unmap", "(I)V"⟩, 8) := ⟨⟨by decide +kernel, by decide +kernel⟩, List.mem_of_getElem? (i := 41) (by decide +kernel), List.mem_of_getElem? (i := 370) (by decide +kernel), List.mem_of_getElem? (i := 371) (by decide +kernel)⟩
theorem lw_p10 : lw_okq (⟨"DelayedExtents$BlockFile", "writePage", "(I)V"⟩, 8) := ⟨⟨by decide +kernel, by decide +kernel⟩, List.mem_of_getElem? (i := 41) (by decide +kernel), List.mem_of_getElem? (i := 411) (by decide +kernel), List.mem_of_getElem? (i := 412) (by decide +kernel)⟩
theorem lw_p11 : lw_okq (⟨"DelayedExtentsModel", "pagesOf", "(I)I"⟩, 11) := ⟨⟨by decide +kernel, by decide +kernel⟩, List.mem_of_getElem? (i := 472) (by decide +kernel), List.mem_of_getElem? (i := 520) (by decide +kernel), List.mem_of_getElem? (i := 521) (by decide +kernel)⟩
theorem lw_p12 : lw_okq (⟨"DelayedExtentsModel", "allFree", "()I"⟩, 11) := ⟨⟨by decide +kernel, by decide +kernel⟩, List.mem_of_getElem? (i := 472) (by decide +kernel), List.mem_of_getElem? (i := 530) (by decide +kernel), List.mem_of_getElem? (i := 531) (by decide +kernel)⟩
theorem lw_p13 : lw_okq (⟨"DelayedExtentsModel", "mappedOf", "(I)I"⟩, 11) := ⟨⟨by decide +kernel, by decide +kernel⟩, List.mem_of_getElem? (i := 472) (by decide +kernel), List.mem_of_getElem? (i := 534) (by decide +kernel), List.mem_of_getElem? (i := 535) (by decide +kernel)⟩
theorem lw_p14 : lw_okq (⟨"DelayedExtentsModel", "extents", "(II)I"⟩, 11) := ⟨⟨by decide +kernel, by decide +kernel⟩, List.mem_of_getElem? (i := 472) (by decide +kernel), List.mem_of_getElem? (i := 538) (by decide +kernel), List.mem_of_getElem? (i := 539) (by decide +kernel)⟩
theorem lw_p15 : lw_okq (⟨"DelayedExtentsModel", "goesOn", "(I)Z"⟩, 11) := ⟨⟨by decide +kernel, by decide +kernel⟩, List.mem_of_getElem? (i := 472) (by decide +kernel), List.mem_of_getElem? (i := 542) (by decide +kernel), List.mem_of_getElem? (i := 543) (by decide +kernel)⟩
def lw_privs_1 : List (MethodName × Nat) := [(⟨"DelayedExtents", "countPages", "()I"⟩, 2), (⟨"DelayedExtents$BlockFile", "continuesRow", "(I)Z"⟩, 8), (⟨"java/lang/Throwable", "fillInStackTrace", "(I)Ljava/lang/Throwable;"⟩, 6), (⟨"DelayedExtents", "isOverbooked", "()Z"⟩, 2), (⟨"DelayedExtents$BlockFile", "endOfRow", "(IIZ)I"⟩, 8), (⟨"DelayedExtents$BlockFile", "mapRow", "(II)V"⟩, 8), (⟨"DelayedExtents$BlockFile", "placeBehind", "(I)I"⟩, 8), (⟨"DelayedExtents$Volume", "untakenFrom", "(I)I"⟩, 2), (⟨"DelayedExtents$BlockFile", "mapTo", "(II)V"⟩, 8), (⟨"DelayedExtents$BlockFile", "unmap", "(I)V"⟩, 8), (⟨"DelayedExtents$BlockFile", "writePage", "(I)V"⟩, 8), (⟨"DelayedExtentsModel", "pagesOf", "(I)I"⟩, 11), (⟨"DelayedExtentsModel", "allFree", "()I"⟩, 11), (⟨"DelayedExtentsModel", "mappedOf", "(I)I"⟩, 11), (⟨"DelayedExtentsModel", "extents", "(II)I"⟩, 11), (⟨"DelayedExtentsModel", "goesOn", "(I)Z"⟩, 11)]
theorem lw_r1 : ∀ q ∈ lw_privs_1, lw_okq q := List.forall_mem_cons.mpr ⟨lw_p0, List.forall_mem_cons.mpr ⟨lw_p1, List.forall_mem_cons.mpr ⟨lw_p2, List.forall_mem_cons.mpr ⟨lw_p3, List.forall_mem_cons.mpr ⟨lw_p4, List.forall_mem_cons.mpr ⟨lw_p5, List.forall_mem_cons.mpr ⟨lw_p6, List.forall_mem_cons.mpr ⟨lw_p7, List.forall_mem_cons.mpr ⟨lw_p8, List.forall_mem_cons.mpr ⟨lw_p9, List.forall_mem_cons.mpr ⟨lw_p10, List.forall_mem_cons.mpr ⟨lw_p11, List.forall_mem_cons.mpr ⟨lw_p12, List.forall_mem_cons.mpr ⟨lw_p13, List.forall_mem_cons.mpr ⟨lw_p14, List.forall_mem_cons.mpr ⟨lw_p15, fun _ h => absurd h List.not_mem_nil⟩⟩⟩⟩⟩⟩⟩⟩⟩⟩⟩⟩⟩⟩⟩⟩
theorem lw_p16 : lw_okq (⟨"DelayedExtentsModel", "allReserved", "()I"⟩, 11) := ⟨⟨by decide +kernel, by decide +kernel⟩, List.mem_of_getElem? (i := 472) (by decide +kernel), List.mem_of_getElem? (i := 549) (by decide +kernel), List.mem_of_getElem? (i := 550) (by decide +kernel)⟩
theorem lw_p17 : lw_okq (⟨"DelayedExtentsModel", "reservedOf", "(I)I"⟩, 11) := ⟨⟨by decide +kernel, by decide +kernel⟩, List.mem_of_getElem? (i := 472) (by decide +kernel), List.mem_of_getElem? (i := 553) (by decide +kernel), List.mem_of_getElem? (i := 554) (by decide +kernel)⟩
theorem lw_p18 : lw_okq (⟨"DelayedExtentsModel", "mapHoles", "(IIZ)V"⟩, 11) := ⟨⟨by decide +kernel, by decide +kernel⟩, List.mem_of_getElem? (i := 472) (by decide +kernel), List.mem_of_getElem? (i := 565) (by decide +kernel), List.mem_of_getElem? (i := 566) (by decide +kernel)⟩
theorem lw_p19 : lw_okq (⟨"DelayedExtentsModel", "mapRow", "(II)V"⟩, 11) := ⟨⟨by decide +kernel, by decide +kernel⟩, List.mem_of_getElem? (i := 472) (by decide +kernel), List.mem_of_getElem? (i := 569) (by decide +kernel), List.mem_of_getElem? (i := 570) (by decide +kernel)⟩
theorem lw_p20 : lw_okq (⟨"DelayedExtentsModel", "map", "(II)V"⟩, 11) := ⟨⟨by decide +kernel, by decide +kernel⟩, List.mem_of_getElem? (i := 472) (by decide +kernel), List.mem_of_getElem? (i := 573) (by decide +kernel), List.mem_of_getElem? (i := 574) (by decide +kernel)⟩
theorem lw_p21 : lw_okq (⟨"DelayedExtentsModel", "bestFor", "(I)I"⟩, 11) := ⟨⟨by decide +kernel, by decide +kernel⟩, List.mem_of_getElem? (i := 472) (by decide +kernel), List.mem_of_getElem? (i := 577) (by decide +kernel), List.mem_of_getElem? (i := 578) (by decide +kernel)⟩
theorem lw_p22 : lw_okq (⟨"DelayedExtentsModel", "room", "(I)I"⟩, 11) := ⟨⟨by decide +kernel, by decide +kernel⟩, List.mem_of_getElem? (i := 472) (by decide +kernel), List.mem_of_getElem? (i := 581) (by decide +kernel), List.mem_of_getElem? (i := 582) (by decide +kernel)⟩
theorem lw_p23 : lw_okq (⟨"DelayedExtentsModel", "unmap", "(I)V"⟩, 11) := ⟨⟨by decide +kernel, by decide +kernel⟩, List.mem_of_getElem? (i := 472) (by decide +kernel), List.mem_of_getElem? (i := 585) (by decide +kernel), List.mem_of_getElem? (i := 586) (by decide +kernel)⟩
theorem lw_p24 : lw_okq (⟨"DelayedExtentsModel", "empty", "(II)I"⟩, 11) := ⟨⟨by decide +kernel, by decide +kernel⟩, List.mem_of_getElem? (i := 472) (by decide +kernel), List.mem_of_getElem? (i := 593) (by decide +kernel), List.mem_of_getElem? (i := 594) (by decide +kernel)⟩
def lw_privs_2 : List (MethodName × Nat) := [(⟨"DelayedExtentsModel", "allReserved", "()I"⟩, 11), (⟨"DelayedExtentsModel", "reservedOf", "(I)I"⟩, 11), (⟨"DelayedExtentsModel", "mapHoles", "(IIZ)V"⟩, 11), (⟨"DelayedExtentsModel", "mapRow", "(II)V"⟩, 11), (⟨"DelayedExtentsModel", "map", "(II)V"⟩, 11), (⟨"DelayedExtentsModel", "bestFor", "(I)I"⟩, 11), (⟨"DelayedExtentsModel", "room", "(I)I"⟩, 11), (⟨"DelayedExtentsModel", "unmap", "(I)V"⟩, 11), (⟨"DelayedExtentsModel", "empty", "(II)I"⟩, 11)]
theorem lw_r2 : ∀ q ∈ lw_privs_2, lw_okq q := List.forall_mem_cons.mpr ⟨lw_p16, List.forall_mem_cons.mpr ⟨lw_p17, List.forall_mem_cons.mpr ⟨lw_p18, List.forall_mem_cons.mpr ⟨lw_p19, List.forall_mem_cons.mpr ⟨lw_p20, List.forall_mem_cons.mpr ⟨lw_p21, List.forall_mem_cons.mpr ⟨lw_p22, List.forall_mem_cons.mpr ⟨lw_p23, List.forall_mem_cons.mpr ⟨lw_p24, fun _ h => absurd h List.not_mem_nil⟩⟩⟩⟩⟩⟩⟩⟩⟩
def lw_privs : List (MethodName × Nat) := lw_privs_1 ++ (lw_privs_2)
def lw_tbl : List Cond := k2_sels lw_privs ++ tables_1
theorem lw_privs_ok : ∀ q ∈ lw_privs, lw_okq q := by
  show ∀ q ∈ lw_privs_1 ++ (lw_privs_2), lw_okq q
  exact List.forall_mem_append.mpr ⟨lw_r1, lw_r2⟩
def lw_good : List Cond := lw_tbl.filter goodWord
def cs_BF : String := "DelayedExtents$BlockFile"
def ct_BF : u_T := fun k => match k with
  | 0 => ("DelayedExtents$BlockFile", "volume", "LDelayedExtents$Volume;", true)
  | 1 => ("DelayedExtents$BlockFile", "firstOwner", "I", true)
  | 2 => ("DelayedExtents$BlockFile", "places", "[I", true)
  | 3 => ("DelayedExtents$BlockFile", "written", "[Z", true)
  | 4 => ("DelayedExtents$BlockFile", "paged", "[Z", true)
  | 5 => ("DelayedExtents$BlockFile", "pageValues", "[I", true)
  | 6 => ("DelayedExtents$BlockFile", "notedHoles", "[Z", true)
  | _ => ("DelayedExtents$BlockFile", "size", "I", false)
def cy_BF : Nat → FieldType := fun k => match k with
  | 0 => .object "DelayedExtents$Volume"
  | 1 => .int
  | 2 => .array .int
  | 3 => .array .boolean
  | 4 => .array .boolean
  | 5 => .array .int
  | 6 => .array .boolean
  | _ => .int
theorem cy_BF_ok : ∀ k, k < 8 → parseFieldDescriptor (ct_BF k).2.2.1 = some (cy_BF k) := by decide +kernel
theorem cn_BF : ∀ a, a < 8 → ∀ b, b < 8 → a ≠ b → (ct_BF a).2.1 ≠ (ct_BF b).2.1 := by decide +kernel
theorem ci_BF : ∀ w ∈ u_ws cs_BF ct_BF 8, w ∈ lw_good := by decide +kernel
def cs_VO : String := "DelayedExtents$Volume"
def ct_VO : u_T := fun k => match k with
  | 0 => ("DelayedExtents$Volume", "owners", "[I", true)
  | _ => ("DelayedExtents$Volume", "values", "[I", true)
def cy_VO : Nat → FieldType := fun k => match k with
  | 0 => .array .int
  | _ => .array .int
theorem cy_VO_ok : ∀ k, k < 2 → parseFieldDescriptor (ct_VO k).2.2.1 = some (cy_VO k) := by decide +kernel
theorem cn_VO : ∀ a, a < 2 → ∀ b, b < 2 → a ≠ b → (ct_VO a).2.1 ≠ (ct_VO b).2.1 := by decide +kernel
theorem ci_VO : ∀ w ∈ u_ws cs_VO ct_VO 2, w ∈ lw_good := by decide +kernel
def cs_DE : String := "DelayedExtents"
def ct_DE : u_T := fun k => match k with
  | 0 => ("DelayedExtents", "volume", "LDelayedExtents$Volume;", true)
  | _ => ("DelayedExtents", "files", "[LDelayedExtents$BlockFile;", true)
def cy_DE : Nat → FieldType := fun k => match k with
  | 0 => .object "DelayedExtents$Volume"
  | _ => .array (.object "DelayedExtents$BlockFile")
theorem cy_DE_ok : ∀ k, k < 2 → parseFieldDescriptor (ct_DE k).2.2.1 = some (cy_DE k) := by decide +kernel
theorem cn_DE : ∀ a, a < 2 → ∀ b, b < 2 → a ≠ b → (ct_DE a).2.1 ≠ (ct_DE b).2.1 := by decide +kernel
theorem ci_DE : ∀ w ∈ u_ws cs_DE ct_DE 2, w ∈ lw_good := by decide +kernel
def cs_MO : String := "DelayedExtentsModel"
def ct_MO : u_T := fun k => match k with
  | 0 => ("DelayedExtentsModel", "code", "I", false)
  | 1 => ("DelayedExtentsModel", "place", "[I", true)
  | 2 => ("DelayedExtentsModel", "written", "[Z", true)
  | 3 => ("DelayedExtentsModel", "paged", "[Z", true)
  | 4 => ("DelayedExtentsModel", "pages", "[I", true)
  | 5 => ("DelayedExtentsModel", "sizes", "[I", true)
  | 6 => ("DelayedExtentsModel", "owners", "[I", true)
  | 7 => ("DelayedExtentsModel", "values", "[I", true)
  | 8 => ("DelayedExtentsModel", "before", "[I", true)
  | 9 => ("DelayedExtentsModel", "first", "I", false)
  | _ => ("DelayedExtentsModel", "length", "I", false)
def cy_MO : Nat → FieldType := fun k => match k with
  | 0 => .int
  | 1 => .array .int
  | 2 => .array .boolean
  | 3 => .array .boolean
  | 4 => .array .int
  | 5 => .array .int
  | 6 => .array .int
  | 7 => .array .int
  | 8 => .array .int
  | 9 => .int
  | _ => .int
theorem cy_MO_ok : ∀ k, k < 11 → parseFieldDescriptor (ct_MO k).2.2.1 = some (cy_MO k) := by decide +kernel
theorem cn_MO : ∀ a, a < 11 → ∀ b, b < 11 → a ≠ b → (ct_MO a).2.1 ≠ (ct_MO b).2.1 := by decide +kernel
theorem ci_MO : ∀ w ∈ u_ws cs_MO ct_MO 11, w ∈ lw_good := by decide +kernel
abbrev cx_cl : List vw_C := [(cs_BF, ct_BF, 8), (cs_VO, ct_VO, 2), (cs_DE, ct_DE, 2), (cs_MO, ct_MO, 11)]
abbrev cx_ty (g : Nat → ClassId) : List (ClassId × FieldType) := [(g 0, .int), (g 1, .boolean), (g 2, .long), (g 3, .object cs_BF)]
def cx_nw : List Cond := [.methodLinkNest "DelayedExtents$BlockFile" 72 ⟨"DelayedExtents", "treeBlocks", "(I)I"⟩ "DelayedExtents", .castable "java/lang/IndexOutOfBoundsException" "java/lang/IndexOutOfBoundsException", .declares ⟨"java/lang/RuntimeException", "<init>", "()V"⟩, .declares ⟨"java/lang/RuntimeException", "<init>", "(Ljava/lang/String;)V"⟩, .declares ⟨"java/lang/Exception", "<init>", "()V"⟩, .declares ⟨"java/lang/Exception", "<init>", "(Ljava/lang/String;)V"⟩, .declares ⟨"java/lang/Throwable", "<init>", "()V"⟩, .declares ⟨"java/lang/Throwable", "<init>", "(Ljava/lang/String;)V"⟩, .castable "java/lang/IllegalStateException" "java/lang/IllegalStateException", .castable "java/lang/UnsupportedOperationException" "java/lang/UnsupportedOperationException", .castable "java/lang/IllegalArgumentException" "java/lang/IllegalArgumentException"]
def cx_sw : List Cond := [.laysStatic "java/lang/Throwable" "UNASSIGNED_STACK" "[Ljava/lang/StackTraceElement;", .laysStatic "java/lang/Throwable" "SUPPRESSED_SENTINEL" "Ljava/util/List;", .isRef (.static "java/lang/Throwable" "UNASSIGNED_STACK" "[Ljava/lang/StackTraceElement;"), .isRef (.static "java/lang/Throwable" "SUPPRESSED_SENTINEL" "Ljava/util/List;")]
abbrev bb_DE_init : ByteArray := prog_1_method_1_code
def yy_DE_init : MethodName := ⟨"DelayedExtents", "<init>", "()V"⟩
abbrev bb_DE_write : ByteArray := prog_1_method_2_code
def yy_DE_write : MethodName := ⟨"DelayedExtents", "write", "(III)V"⟩
abbrev bb_DE_read : ByteArray := prog_1_method_3_code
def yy_DE_read : MethodName := ⟨"DelayedExtents", "read", "(II)I"⟩
abbrev bb_DE_preallocate : ByteArray := prog_1_method_4_code
def yy_DE_preallocate : MethodName := ⟨"DelayedExtents", "preallocate", "(III)I"⟩
abbrev bb_DE_punch : ByteArray := prog_1_method_5_code
def yy_DE_punch : MethodName := ⟨"DelayedExtents", "punch", "(III)I"⟩
abbrev bb_DE_truncate : ByteArray := prog_1_method_6_code
def yy_DE_truncate : MethodName := ⟨"DelayedExtents", "truncate", "(II)I"⟩
abbrev bb_DE_flush : ByteArray := prog_1_method_7_code
def yy_DE_flush : MethodName := ⟨"DelayedExtents", "flush", "(I)I"⟩
abbrev bb_DE_crash : ByteArray := prog_1_method_8_code
def yy_DE_crash : MethodName := ⟨"DelayedExtents", "crash", "()I"⟩
abbrev bb_DE_extent : ByteArray := prog_1_method_9_code
def yy_DE_extent : MethodName := ⟨"DelayedExtents", "extent", "(III)I"⟩
abbrev bb_DE_about : ByteArray := prog_1_method_10_code
def yy_DE_about : MethodName := ⟨"DelayedExtents", "about", "(II)I"⟩
abbrev bb_DE_free : ByteArray := prog_1_method_11_code
def yy_DE_free : MethodName := ⟨"DelayedExtents", "free", "()I"⟩
abbrev bb_DE_reserved : ByteArray := prog_1_method_12_code
def yy_DE_reserved : MethodName := ⟨"DelayedExtents", "reserved", "()I"⟩
abbrev bb_DE_owner : ByteArray := prog_1_method_13_code
def yy_DE_owner : MethodName := ⟨"DelayedExtents", "owner", "(I)I"⟩
abbrev bb_DE_value : ByteArray := prog_1_method_14_code
def yy_DE_value : MethodName := ⟨"DelayedExtents", "value", "(I)I"⟩
abbrev bb_DE_requireFile : ByteArray := prog_1_method_15_code
def yy_DE_requireFile : MethodName := ⟨"DelayedExtents", "requireFile", "(I)V"⟩
abbrev bb_DE_requireBlock : ByteArray := prog_1_method_16_code
def yy_DE_requireBlock : MethodName := ⟨"DelayedExtents", "requireBlock", "(II)V"⟩
abbrev bb_DE_requireRow : ByteArray := prog_1_method_17_code
def yy_DE_requireRow : MethodName := ⟨"DelayedExtents", "requireRow", "(II)V"⟩
abbrev bb_DE_requirePlace : ByteArray := prog_1_method_18_code
def yy_DE_requirePlace : MethodName := ⟨"DelayedExtents", "requirePlace", "(I)V"⟩
abbrev bb_DE_treeBlocks : ByteArray := prog_1_method_19_code
def yy_DE_treeBlocks : MethodName := ⟨"DelayedExtents", "treeBlocks", "(I)I"⟩
abbrev bb_DE_countPages : ByteArray := prog_1_method_20_code
def yy_DE_countPages : MethodName := ⟨"DelayedExtents", "countPages", "()I"⟩
abbrev bb_DE_isOverbooked : ByteArray := prog_1_method_21_code
def yy_DE_isOverbooked : MethodName := ⟨"DelayedExtents", "isOverbooked", "()Z"⟩
abbrev bb_MO_init : ByteArray := prog_5_method_1_code
def yy_MO_init : MethodName := ⟨"DelayedExtentsModel", "<init>", "()V"⟩
abbrev bb_MO_thrown : ByteArray := prog_5_method_2_code
def yy_MO_thrown : MethodName := ⟨"DelayedExtentsModel", "thrown", "()I"⟩
abbrev bb_MO_noFile : ByteArray := prog_5_method_3_code
def yy_MO_noFile : MethodName := ⟨"DelayedExtentsModel", "noFile", "(I)Z"⟩
abbrev bb_MO_noBlock : ByteArray := prog_5_method_4_code
def yy_MO_noBlock : MethodName := ⟨"DelayedExtentsModel", "noBlock", "(I)Z"⟩
abbrev bb_MO_goesOn : ByteArray := prog_5_method_5_code
def yy_MO_goesOn : MethodName := ⟨"DelayedExtentsModel", "goesOn", "(I)Z"⟩
abbrev bb_MO_extents : ByteArray := prog_5_method_6_code
def yy_MO_extents : MethodName := ⟨"DelayedExtentsModel", "extents", "(II)I"⟩
abbrev bb_MO_tree : ByteArray := prog_5_method_7_code
def yy_MO_tree : MethodName := ⟨"DelayedExtentsModel", "tree", "(I)I"⟩
abbrev bb_MO_mappedOf : ByteArray := prog_5_method_8_code
def yy_MO_mappedOf : MethodName := ⟨"DelayedExtentsModel", "mappedOf", "(I)I"⟩
abbrev bb_MO_pagesOf : ByteArray := prog_5_method_9_code
def yy_MO_pagesOf : MethodName := ⟨"DelayedExtentsModel", "pagesOf", "(I)I"⟩
abbrev bb_MO_reservedOf : ByteArray := prog_5_method_10_code
def yy_MO_reservedOf : MethodName := ⟨"DelayedExtentsModel", "reservedOf", "(I)I"⟩
abbrev bb_MO_allReserved : ByteArray := prog_5_method_11_code
def yy_MO_allReserved : MethodName := ⟨"DelayedExtentsModel", "allReserved", "()I"⟩
abbrev bb_MO_allFree : ByteArray := prog_5_method_12_code
def yy_MO_allFree : MethodName := ⟨"DelayedExtentsModel", "allFree", "()I"⟩
abbrev bb_MO_map : ByteArray := prog_5_method_13_code
def yy_MO_map : MethodName := ⟨"DelayedExtentsModel", "map", "(II)V"⟩
abbrev bb_MO_unmap : ByteArray := prog_5_method_14_code
def yy_MO_unmap : MethodName := ⟨"DelayedExtentsModel", "unmap", "(I)V"⟩
abbrev bb_MO_room : ByteArray := prog_5_method_15_code
def yy_MO_room : MethodName := ⟨"DelayedExtentsModel", "room", "(I)I"⟩
abbrev bb_MO_bestFor : ByteArray := prog_5_method_16_code
def yy_MO_bestFor : MethodName := ⟨"DelayedExtentsModel", "bestFor", "(I)I"⟩
abbrev bb_MO_mapRow : ByteArray := prog_5_method_17_code
def yy_MO_mapRow : MethodName := ⟨"DelayedExtentsModel", "mapRow", "(II)V"⟩
abbrev bb_MO_mapHoles : ByteArray := prog_5_method_18_code
def yy_MO_mapHoles : MethodName := ⟨"DelayedExtentsModel", "mapHoles", "(IIZ)V"⟩
abbrev bb_MO_write : ByteArray := prog_5_method_19_code
def yy_MO_write : MethodName := ⟨"DelayedExtentsModel", "write", "(III)V"⟩
abbrev bb_MO_read : ByteArray := prog_5_method_20_code
def yy_MO_read : MethodName := ⟨"DelayedExtentsModel", "read", "(II)I"⟩
abbrev bb_MO_preallocate : ByteArray := prog_5_method_21_code
def yy_MO_preallocate : MethodName := ⟨"DelayedExtentsModel", "preallocate", "(III)I"⟩
abbrev bb_MO_empty : ByteArray := prog_5_method_22_code
def yy_MO_empty : MethodName := ⟨"DelayedExtentsModel", "empty", "(II)I"⟩
abbrev bb_MO_punch : ByteArray := prog_5_method_23_code
def yy_MO_punch : MethodName := ⟨"DelayedExtentsModel", "punch", "(III)I"⟩
abbrev bb_MO_truncate : ByteArray := prog_5_method_24_code
def yy_MO_truncate : MethodName := ⟨"DelayedExtentsModel", "truncate", "(II)I"⟩
abbrev bb_MO_flush : ByteArray := prog_5_method_25_code
def yy_MO_flush : MethodName := ⟨"DelayedExtentsModel", "flush", "(I)I"⟩
abbrev bb_MO_crash : ByteArray := prog_5_method_26_code
def yy_MO_crash : MethodName := ⟨"DelayedExtentsModel", "crash", "()I"⟩
abbrev bb_MO_extent : ByteArray := prog_5_method_27_code
def yy_MO_extent : MethodName := ⟨"DelayedExtentsModel", "extent", "(III)I"⟩
abbrev bb_MO_about : ByteArray := prog_5_method_28_code
def yy_MO_about : MethodName := ⟨"DelayedExtentsModel", "about", "(II)I"⟩
abbrev bb_MO_free : ByteArray := prog_5_method_29_code
def yy_MO_free : MethodName := ⟨"DelayedExtentsModel", "free", "()I"⟩
abbrev bb_MO_reserved : ByteArray := prog_5_method_30_code
def yy_MO_reserved : MethodName := ⟨"DelayedExtentsModel", "reserved", "()I"⟩
abbrev bb_MO_owner : ByteArray := prog_5_method_31_code
def yy_MO_owner : MethodName := ⟨"DelayedExtentsModel", "owner", "(I)I"⟩
abbrev bb_MO_value : ByteArray := prog_5_method_32_code
def yy_MO_value : MethodName := ⟨"DelayedExtentsModel", "value", "(I)I"⟩
abbrev bb_BF_init : ByteArray := prog_2_method_1_code
def yy_BF_init : MethodName := ⟨"DelayedExtents$BlockFile", "<init>", "(LDelayedExtents$Volume;I)V"⟩
abbrev bb_BF_size : ByteArray := prog_2_method_2_code
def yy_BF_size : MethodName := ⟨"DelayedExtents$BlockFile", "size", "()I"⟩
abbrev bb_BF_setSize : ByteArray := prog_2_method_3_code
def yy_BF_setSize : MethodName := ⟨"DelayedExtents$BlockFile", "setSize", "(I)V"⟩
abbrev bb_BF_growTo : ByteArray := prog_2_method_4_code
def yy_BF_growTo : MethodName := ⟨"DelayedExtents$BlockFile", "growTo", "(I)V"⟩
abbrev bb_BF_placeOf : ByteArray := prog_2_method_5_code
def yy_BF_placeOf : MethodName := ⟨"DelayedExtents$BlockFile", "placeOf", "(I)I"⟩
abbrev bb_BF_isWritten : ByteArray := prog_2_method_6_code
def yy_BF_isWritten : MethodName := ⟨"DelayedExtents$BlockFile", "isWritten", "(I)Z"⟩
abbrev bb_BF_isHole : ByteArray := prog_2_method_7_code
def yy_BF_isHole : MethodName := ⟨"DelayedExtents$BlockFile", "isHole", "(I)Z"⟩
abbrev bb_BF_hasPage : ByteArray := prog_2_method_8_code
def yy_BF_hasPage : MethodName := ⟨"DelayedExtents$BlockFile", "hasPage", "(I)Z"⟩
abbrev bb_BF_putPage : ByteArray := prog_2_method_9_code
def yy_BF_putPage : MethodName := ⟨"DelayedExtents$BlockFile", "putPage", "(II)V"⟩
abbrev bb_BF_dropPage : ByteArray := prog_2_method_10_code
def yy_BF_dropPage : MethodName := ⟨"DelayedExtents$BlockFile", "dropPage", "(I)V"⟩
abbrev bb_BF_dropPages : ByteArray := prog_2_method_11_code
def yy_BF_dropPages : MethodName := ⟨"DelayedExtents$BlockFile", "dropPages", "()V"⟩
abbrev bb_BF_readsAs : ByteArray := prog_2_method_12_code
def yy_BF_readsAs : MethodName := ⟨"DelayedExtents$BlockFile", "readsAs", "(I)I"⟩
abbrev bb_BF_countPages : ByteArray := prog_2_method_13_code
def yy_BF_countPages : MethodName := ⟨"DelayedExtents$BlockFile", "countPages", "()I"⟩
abbrev bb_BF_countMapped : ByteArray := prog_2_method_14_code
def yy_BF_countMapped : MethodName := ⟨"DelayedExtents$BlockFile", "countMapped", "()I"⟩
abbrev bb_BF_countHoles : ByteArray := prog_2_method_15_code
def yy_BF_countHoles : MethodName := ⟨"DelayedExtents$BlockFile", "countHoles", "(II)I"⟩
abbrev bb_BF_countReserved : ByteArray := prog_2_method_16_code
def yy_BF_countReserved : MethodName := ⟨"DelayedExtents$BlockFile", "countReserved", "()I"⟩
abbrev bb_BF_countExtents : ByteArray := prog_2_method_17_code
def yy_BF_countExtents : MethodName := ⟨"DelayedExtents$BlockFile", "countExtents", "()I"⟩
abbrev bb_BF_firstBlockOfExtent : ByteArray := prog_2_method_18_code
def yy_BF_firstBlockOfExtent : MethodName := ⟨"DelayedExtents$BlockFile", "firstBlockOfExtent", "(I)I"⟩
abbrev bb_BF_extentLength : ByteArray := prog_2_method_19_code
def yy_BF_extentLength : MethodName := ⟨"DelayedExtents$BlockFile", "extentLength", "(I)I"⟩
abbrev bb_BF_continuesRow : ByteArray := prog_2_method_20_code
def yy_BF_continuesRow : MethodName := ⟨"DelayedExtents$BlockFile", "continuesRow", "(I)Z"⟩
abbrev bb_BF_mapHoles : ByteArray := prog_2_method_21_code
def yy_BF_mapHoles : MethodName := ⟨"DelayedExtents$BlockFile", "mapHoles", "(IIZ)V"⟩
abbrev bb_BF_endOfRow : ByteArray := prog_2_method_22_code
def yy_BF_endOfRow : MethodName := ⟨"DelayedExtents$BlockFile", "endOfRow", "(IIZ)I"⟩
abbrev bb_BF_mapRow : ByteArray := prog_2_method_23_code
def yy_BF_mapRow : MethodName := ⟨"DelayedExtents$BlockFile", "mapRow", "(II)V"⟩
abbrev bb_BF_placeBehind : ByteArray := prog_2_method_24_code
def yy_BF_placeBehind : MethodName := ⟨"DelayedExtents$BlockFile", "placeBehind", "(I)I"⟩
abbrev bb_BF_mapTo : ByteArray := prog_2_method_25_code
def yy_BF_mapTo : MethodName := ⟨"DelayedExtents$BlockFile", "mapTo", "(II)V"⟩
abbrev bb_BF_unmap : ByteArray := prog_2_method_26_code
def yy_BF_unmap : MethodName := ⟨"DelayedExtents$BlockFile", "unmap", "(I)V"⟩
abbrev bb_BF_makeHoles : ByteArray := prog_2_method_27_code
def yy_BF_makeHoles : MethodName := ⟨"DelayedExtents$BlockFile", "makeHoles", "(II)I"⟩
abbrev bb_BF_writePages : ByteArray := prog_2_method_28_code
def yy_BF_writePages : MethodName := ⟨"DelayedExtents$BlockFile", "writePages", "()I"⟩
abbrev bb_BF_writePage : ByteArray := prog_2_method_29_code
def yy_BF_writePage : MethodName := ⟨"DelayedExtents$BlockFile", "writePage", "(I)V"⟩
abbrev bb_BF_noteHoles : ByteArray := prog_2_method_30_code
def yy_BF_noteHoles : MethodName := ⟨"DelayedExtents$BlockFile", "noteHoles", "()V"⟩
abbrev bb_BF_restoreHoles : ByteArray := prog_2_method_31_code
def yy_BF_restoreHoles : MethodName := ⟨"DelayedExtents$BlockFile", "restoreHoles", "()V"⟩
abbrev bb_VO_init : ByteArray := prog_3_method_1_code
def yy_VO_init : MethodName := ⟨"DelayedExtents$Volume", "<init>", "()V"⟩
abbrev bb_VO_ownerOf : ByteArray := prog_3_method_2_code
def yy_VO_ownerOf : MethodName := ⟨"DelayedExtents$Volume", "ownerOf", "(I)I"⟩
abbrev bb_VO_valueAt : ByteArray := prog_3_method_3_code
def yy_VO_valueAt : MethodName := ⟨"DelayedExtents$Volume", "valueAt", "(I)I"⟩
abbrev bb_VO_setValue : ByteArray := prog_3_method_4_code
def yy_VO_setValue : MethodName := ⟨"DelayedExtents$Volume", "setValue", "(II)V"⟩
abbrev bb_VO_take : ByteArray := prog_3_method_5_code
def yy_VO_take : MethodName := ⟨"DelayedExtents$Volume", "take", "(II)V"⟩
abbrev bb_VO_release : ByteArray := prog_3_method_6_code
def yy_VO_release : MethodName := ⟨"DelayedExtents$Volume", "release", "(I)V"⟩
abbrev bb_VO_isUntaken : ByteArray := prog_3_method_7_code
def yy_VO_isUntaken : MethodName := ⟨"DelayedExtents$Volume", "isUntaken", "(I)Z"⟩
abbrev bb_VO_countUntaken : ByteArray := prog_3_method_8_code
def yy_VO_countUntaken : MethodName := ⟨"DelayedExtents$Volume", "countUntaken", "()I"⟩
abbrev bb_VO_bestRow : ByteArray := prog_3_method_9_code
def yy_VO_bestRow : MethodName := ⟨"DelayedExtents$Volume", "bestRow", "(I)I"⟩
abbrev bb_VO_untakenFrom : ByteArray := prog_3_method_10_code
def yy_VO_untakenFrom : MethodName := ⟨"DelayedExtents$Volume", "untakenFrom", "(I)I"⟩
abbrev bb_VO_suitsBetter : ByteArray := prog_3_method_11_code
def yy_VO_suitsBetter : MethodName := ⟨"DelayedExtents$Volume", "suitsBetter", "(III)Z"⟩
abbrev bb_LA_write : ByteArray := method_3_code
def yy_LA_write : MethodName := ⟨"DelayedExtentsLaw", "write", "(LDelayedExtents;III)I"⟩
abbrev bb_LA_read : ByteArray := method_4_code
def yy_LA_read : MethodName := ⟨"DelayedExtentsLaw", "read", "(LDelayedExtents;II[J)I"⟩
abbrev bb_LA_preallocate : ByteArray := method_5_code
def yy_LA_preallocate : MethodName := ⟨"DelayedExtentsLaw", "preallocate", "(LDelayedExtents;III[J)I"⟩
abbrev bb_LA_punch : ByteArray := method_6_code
def yy_LA_punch : MethodName := ⟨"DelayedExtentsLaw", "punch", "(LDelayedExtents;III[J)I"⟩
abbrev bb_LA_truncate : ByteArray := method_7_code
def yy_LA_truncate : MethodName := ⟨"DelayedExtentsLaw", "truncate", "(LDelayedExtents;II[J)I"⟩
abbrev bb_LA_flush : ByteArray := method_8_code
def yy_LA_flush : MethodName := ⟨"DelayedExtentsLaw", "flush", "(LDelayedExtents;I[J)I"⟩
abbrev bb_LA_extent : ByteArray := method_9_code
def yy_LA_extent : MethodName := ⟨"DelayedExtentsLaw", "extent", "(LDelayedExtents;III[J)I"⟩
abbrev bb_LA_about : ByteArray := method_10_code
def yy_LA_about : MethodName := ⟨"DelayedExtentsLaw", "about", "(LDelayedExtents;II[J)I"⟩
abbrev bb_LA_owner : ByteArray := method_11_code
def yy_LA_owner : MethodName := ⟨"DelayedExtentsLaw", "owner", "(LDelayedExtents;I[J)I"⟩
abbrev bb_LA_value : ByteArray := method_12_code
def yy_LA_value : MethodName := ⟨"DelayedExtentsLaw", "value", "(LDelayedExtents;I[J)I"⟩
